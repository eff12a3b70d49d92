import java.util.ArrayList;
import java.util.Arrays;

/**
 * A register of shadows in a hot town: things and their shade, the rights in it, heights as they were
 * known on any day, stalls and their fees by a tariff, walks with least sun, and the best place for a tree.
 * What each call answers stands in DOC.md, as numbered promises; words like KNOWN or OPEN are explained there.
 */
public final class ShadeRegister {
    public static final int NONE = -1;

    private static final int LAST_DAY = 3599;
    private static final int MOST_DAYS_AT_ONCE = 400;
    private static final int DAYS_OF_YEAR = 360;
    private static final int DAYS_OF_MONTH = 30;
    private static final int MONTHS = 12;
    private static final int HOURS = 12;
    private static final int MOST_SUN = 300;
    private static final int MOST_CLOUDS = 60;
    private static final int MOST_PERSONS = 16;
    private static final int MOST_THINGS = 24;
    private static final int MOST_ENTRIES = 40;
    private static final int MOST_GRANTS = 60;
    private static final int MOST_STALLS = 10;
    private static final int MOST_HEIGHT = 60;
    private static final int MOST_GROWS = 999;
    private static final int MOST_LEAN = 50;
    private static final int MOST_ACCOUNT_DAYS = 60;
    private static final int MOST_BYTES = 400;
    private static final int BYTES_OF_FEED = 20;
    private static final int MOST_RULES = 20;

    private static final int WALL = 0;
    private static final int TREE = 1;
    private static final int POLE = 2;

    private static final int SALE = 0;
    private static final int LEASE = 1;
    private static final int WILL = 2;

    private static final int HUNDREDTHS = 100;
    private static final int MIDDLE = 50;
    private static final int PARTS_OF_CELL = 27720;
    private static final int MOST_SHADERS = 12;
    /** A set of bits that has every thing. */
    private static final int ALL_THINGS = -1;

    private static final int MOST_GIVEN = 1000000;
    private static final int GIVES_REFUSED = -2000000000;
    private static final int FEES_REFUSED = -1000000000;

    /** A tariff's names, as places in the row of their values. */
    private static final int NAME_HOUR = 0;
    private static final int NAME_MONTH = 1;
    private static final int NAME_DAY = 2;
    private static final int NAME_HEIGHT = 3;
    private static final int NAME_MANY = 4;
    private static final int NAME_KIND = 5;
    private static final int NAME_THING = 6;
    private static final int NAME_STALL = 7;
    private static final int NAMES = 8;

    private final Ground ground;
    private final Sky sky = new Sky();
    private final ArrayList<Person> persons = new ArrayList<>();
    private final ArrayList<Thing> things = new ArrayList<>();
    private final ArrayList<Grant> grants = new ArrayList<>();
    private final ArrayList<Stall> stalls = new ArrayList<>();
    private final Scene scene;
    private final Tape tape = new Tape();
    private final Parser parser;
    private final Route route;
    private final int[] names = new int[NAMES];
    private final int[] holders = new int[MOST_THINGS];
    private final int[] served;
    private Tariff inForce = new Tariff();
    private Tariff spare = new Tariff();
    private int today;
    private int faultKind = NONE;
    private int faultPlace = NONE;

    public ShadeRegister(int wide, int high) {
        ground = new Ground(wide, high);
        scene = new Scene(ground, sky, things);
        route = new Route(ground);
        parser = new Parser(tape, spare);
        served = new int[ground.size];
    }

    public int days(int n) {
        if (n < 1 || n > MOST_DAYS_AT_ONCE || today + n > LAST_DAY) {
            return NONE;
        }
        today += n;
        return today;
    }

    public boolean sun(int month, int hour, int ux, int uy) {
        if (month < 0 || month >= MONTHS || !isHour(hour)) {
            return false;
        }
        if (!isWithin(ux, MOST_SUN) || !isWithin(uy, MOST_SUN)) {
            return false;
        }
        sky.setSun(month, hour, ux, uy);
        return true;
    }

    public int cloud(int day, int hour) {
        if (!isDay(day) || !isHour(hour) || sky.isClouded(day, hour)) {
            return NONE;
        }
        return sky.addCloud(day, hour);
    }

    public int person() {
        if (persons.size() >= MOST_PERSONS) {
            return NONE;
        }
        persons.add(new Person());
        return persons.size() - 1;
    }

    public boolean died(int person, int day) {
        if (!isPerson(person) || day < 0 || day > today) {
            return false;
        }
        Person p = persons.get(person);
        if (p.diedDay != NONE) {
            return false;
        }
        p.diedDay = day;
        p.diedTold = today;
        return true;
    }

    public int wall(int cell, int owner, int height) {
        if (!mayStand(cell, owner, height)) {
            return NONE;
        }
        return addThing(new Thing(WALL, cell, owner, today), height);
    }

    public int tree(int cell, int owner, int height, int grows) {
        if (grows < 1 || grows > MOST_GROWS || !mayStand(cell, owner, height)) {
            return NONE;
        }
        Thing t = new Thing(TREE, cell, owner, today);
        t.grows = grows;
        return addThing(t, height);
    }

    public int pole(int cell, int owner, int height, int lx, int ly) {
        if (!isWithin(lx, MOST_LEAN) || !isWithin(ly, MOST_LEAN) || !mayStand(cell, owner, height)) {
            return NONE;
        }
        Thing t = new Thing(POLE, cell, owner, today);
        t.leanX = lx;
        t.leanY = ly;
        return addThing(t, height);
    }

    public int raise(int thing, int day, int height) {
        if (!isThing(thing) || !isDay(day) || !isHeight(height)) {
            return NONE;
        }
        Thing t = things.get(thing);
        if (day < t.from || t.hasFallen() || t.entries >= MOST_ENTRIES) {
            return NONE;
        }
        t.tell(day, height, today);
        return t.entries;
    }

    public boolean fell(int thing, int day) {
        if (!isThing(thing)) {
            return false;
        }
        Thing t = things.get(thing);
        if (day < t.from || day > today || t.hasFallen()) {
            return false;
        }
        t.fellDay = day;
        t.fellTold = today;
        return true;
    }

    public int height(int thing, int day, int known) {
        if (!isThing(thing) || !isDay(day) || !isDay(known)) {
            return NONE;
        }
        return things.get(thing).heightOn(day, known);
    }

    public int measure(int thing, int hour, int cell) {
        if (!isThing(thing) || !isHour(hour) || !ground.has(cell)) {
            return NONE;
        }
        Thing t = things.get(thing);
        int now = t.heightOn(today, today);
        if (now == NONE || t.measured == today || sky.isClouded(today, hour)) {
            return NONE;
        }
        int nearest = nearestHeight(t, hour, cell, now);
        if (nearest == NONE || (nearest != now && t.entries >= MOST_ENTRIES)) {
            return NONE;
        }
        if (nearest != now) {
            t.mend(nearest, today);
        }
        t.measured = today;
        return t.heightOn(today, today);
    }

    public int thing(int thing, int what) {
        if (!isThing(thing)) {
            return NONE;
        }
        Thing t = things.get(thing);
        switch (what) {
            case 0: return t.kind;
            case 1: return t.cell;
            case 2: return t.owner;
            case 3: return t.from;
            case 4: return t.entries;
            case 5: return t.fellDay;
            case 6: return t.measured;
            case 7: return t.grows;
            default: return NONE;
        }
    }

    public int entry(int thing, int i, int what) {
        return isThing(thing) ? things.get(thing).entryValue(i, what) : NONE;
    }

    /** Eight parameters, one more than LANGUAGE.md's rule 11 wants: the document's face has them so. */
    public int grant(int giver, int taker, int thing, int hours, int months, int from, int to, int sort) {
        if (!isPerson(giver) || !isPerson(taker) || giver == taker || !isThing(thing)) {
            return NONE;
        }
        if (!isPairOfTwelve(hours) || hours / 16 > hours % 16 || !isPairOfTwelve(months)) {
            return NONE;
        }
        if (!isSpan(from, to) || sort < SALE || sort > WILL || grants.size() >= MOST_GRANTS) {
            return NONE;
        }
        Grant g = new Grant(giver, persons.get(giver), taker, thing, sort, today);
        g.limit(hours, months, from, to);
        grants.add(g);
        return grants.size() - 1;
    }

    public int holder(int thing, int day, int hour, int known) {
        if (!isThing(thing) || !isDay(day) || !isHour(hour) || !isDay(known)) {
            return NONE;
        }
        if (things.get(thing).heightOn(day, known) == NONE) {
            return NONE;
        }
        findHolders(day, hour, known);
        return thing < holders.length ? holders[thing] : NONE;
    }

    public int shaded(int cell, int day, int hour, int known) {
        if (!ground.has(cell) || !isDay(day) || !isHour(hour) || !isDay(known)) {
            return NONE;
        }
        scene.lookAt(day, known);
        scene.turnTo(hour);
        return scene.shadersOf(cell);
    }

    public int parts(int person, int cell, int day, int hour, int known) {
        if (!isPerson(person) || !ground.has(cell) || !isDay(day) || !isHour(hour) || !isDay(known)) {
            return NONE;
        }
        scene.lookAt(day, known);
        scene.turnTo(hour);
        return scene.partsOf(heldBy(person, day, hour, known), cell);
    }

    public int shadow(int thing, int day, int hour, int known) {
        if (!isThing(thing) || !isDay(day) || !isHour(hour) || !isDay(known)) {
            return NONE;
        }
        scene.lookAt(day, known);
        scene.turnTo(hour);
        return scene.cellsShadedBy(thing);
    }

    public long account(int person, int from, int to, int known) {
        if (!isPerson(person) || !isSpan(from, to) || to - from >= MOST_ACCOUNT_DAYS || !isDay(known)) {
            return NONE;
        }
        long sum = 0;
        for (int day = from; day <= to; day++) {
            sum += partsOnDay(person, day, known);
        }
        return sum;
    }

    public long bill(int thing, int height, int day, int person) {
        if (!isThing(thing) || !isHeight(height) || !isPerson(person)) {
            return 0;
        }
        Thing t = things.get(thing);
        if (day < t.from || day > LAST_DAY - (MONTHS - 1) * DAYS_OF_MONTH) {
            return 0;
        }
        if (t.heightOn(day, today) == NONE) {
            return 0;
        }
        long asItIs = partsOverYear(person, day);
        t.tell(day, height, today);
        long asItWouldBe = partsOverYear(person, day);
        t.forgetLast();
        return asItWouldBe - asItIs;
    }

    public int feed(int a, int b, int c, int d, int e) {
        if (tape.length + BYTES_OF_FEED > MOST_BYTES) {
            return NONE;
        }
        tape.addFour(a);
        tape.addFour(b);
        tape.addFour(c);
        tape.addFour(d);
        tape.addFour(e);
        return tape.length;
    }

    public int end(int n) {
        if (n < 0 || n > tape.length) {
            return NONE;
        }
        tape.length = n;
        return n;
    }

    public int tariff() {
        boolean sound = parser.parseInto(spare);
        tape.length = 0;
        faultKind = parser.faultKind;
        faultPlace = parser.faultPlace;
        if (!sound) {
            return NONE;
        }
        Tariff former = inForce;
        inForce = spare;
        spare = former;
        return inForce.rules;
    }

    public int fault(int what) {
        switch (what) {
            case 0: return faultKind;
            case 1: return faultPlace;
            default: return NONE;
        }
    }

    public int gives(int hour, int month, int height, int many, int kind, int thing) {
        if (!isWithin(hour, MOST_GIVEN) || !isWithin(month, MOST_GIVEN) || !isWithin(height, MOST_GIVEN)) {
            return GIVES_REFUSED;
        }
        if (!isWithin(many, MOST_GIVEN) || !isWithin(kind, MOST_GIVEN) || !isWithin(thing, MOST_GIVEN)) {
            return GIVES_REFUSED;
        }
        names[NAME_HOUR] = hour;
        names[NAME_MONTH] = month;
        names[NAME_DAY] = 0;
        names[NAME_HEIGHT] = height;
        names[NAME_MANY] = many;
        names[NAME_KIND] = kind;
        names[NAME_THING] = thing;
        names[NAME_STALL] = 0;
        return inForce.answer(names);
    }

    public int stall(int person, int from, int to) {
        if (!isPerson(person) || !isSpan(from, to) || stalls.size() >= MOST_STALLS) {
            return NONE;
        }
        stalls.add(new Stall(from, to));
        return stalls.size() - 1;
    }

    public boolean place(int stall, int hour, int cell) {
        if (!isStall(stall) || !isHour(hour)) {
            return false;
        }
        if (cell != NONE && !mayTake(stall, hour, cell)) {
            return false;
        }
        stalls.get(stall).put(hour, cell);
        return true;
    }

    public int placeOf(int stall, int hour) {
        return isStall(stall) ? stalls.get(stall).cellIn(hour) : NONE;
    }

    public long fees(int stall, int day, int person) {
        if (!isStall(stall) || !stalls.get(stall).isOn(day) || (person != NONE && !isPerson(person))) {
            return FEES_REFUSED;
        }
        Stall s = stalls.get(stall);
        scene.lookAt(day, today);
        long sum = 0;
        for (int hour = 0; hour < HOURS; hour++) {
            int cell = s.cellIn(hour);
            if (cell != NONE) {
                scene.turnTo(hour);
                int asked = person == NONE ? ALL_THINGS : heldBy(person, day, hour, today);
                sum += chargeOf(cell, hour, stall, asked);
            }
        }
        return sum;
    }

    public int walk(int day, int fromHour, int from, int toHour, int to) {
        if (!isDay(day) || !isHour(fromHour) || !isHour(toHour) || toHour < fromHour) {
            return NONE;
        }
        if (!ground.has(from) || !ground.has(to)) {
            return NONE;
        }
        scene.lookAt(day, today);
        route.startFromBehind(to);
        for (int hour = toHour; hour >= fromHour; hour--) {
            scene.turnTo(hour);
            route.goBackAnHour();
            leadThroughHour(hour, from, hour - fromHour, hour == toHour);
        }
        return route.follow(from, fromHour, toHour);
    }

    public long walked(int i) {
        return i == NONE ? route.charges() : route.cellOfPath(i);
    }

    public int best(int day, int height) {
        return bestTree(day, height);
    }

    public int serves(int day, int height) {
        int cell = bestTree(day, height);
        return ground.has(cell) ? served[cell] : NONE;
    }

    public int about(int what) {
        switch (what) {
            case 0: return today;
            case 1: return ground.wide;
            case 2: return ground.high;
            case 3: return persons.size();
            case 4: return things.size();
            case 5: return grants.size();
            case 6: return sky.clouds;
            case 7: return stalls.size();
            case 8: return inForce.rules;
            case 9: return tape.length;
            case 10: return standingNow();
            default: return NONE;
        }
    }

    private static boolean isDay(int day) {
        return day >= 0 && day <= LAST_DAY;
    }

    private static boolean isSpan(int from, int to) {
        return isDay(from) && isDay(to) && from <= to;
    }

    private static boolean isHour(int hour) {
        return hour >= 0 && hour < HOURS;
    }

    private static boolean isHeight(int height) {
        return height >= 0 && height <= MOST_HEIGHT;
    }

    private static boolean isWithin(int value, int most) {
        return value >= -most && value <= most;
    }

    /** Two numbers of 0 .. 11 as 16 a + b. */
    private static boolean isPairOfTwelve(int pair) {
        return pair >= 0 && pair / 16 < HOURS && pair % 16 < HOURS;
    }

    private static int monthOf(int day) {
        return day % DAYS_OF_YEAR / DAYS_OF_MONTH;
    }

    /** By how many cells the point of a height lies aside of its thing's cell, along one axis. */
    private static int cellsAside(int height, int perHeight) {
        return Math.floorDiv(MIDDLE + height * perHeight, HUNDREDTHS);
    }

    private boolean isPerson(int person) {
        return person >= 0 && person < persons.size();
    }

    private boolean isThing(int thing) {
        return thing >= 0 && thing < things.size();
    }

    private boolean isStall(int stall) {
        return stall >= 0 && stall < stalls.size();
    }

    private boolean mayStand(int cell, int owner, int height) {
        if (!ground.has(cell) || !isPerson(owner) || !isHeight(height) || things.size() >= MOST_THINGS) {
            return false;
        }
        for (int i = 0; i < stalls.size(); i++) {
            Stall s = stalls.get(i);
            if (s.to >= today && s.hasCell(cell)) {
                return false;
            }
        }
        return !isBuiltOn(cell);
    }

    /** Whether a thing that hasn't fallen is on the cell: as known now it stands on every day from today on. */
    private boolean isBuiltOn(int cell) {
        for (int i = 0; i < things.size(); i++) {
            Thing t = things.get(i);
            if (t.cell == cell && !t.hasFallen()) {
                return true;
            }
        }
        return false;
    }

    private int addThing(Thing t, int height) {
        t.tell(today, height, today);
        things.add(t);
        return things.size() - 1;
    }

    private int standingNow() {
        int standing = 0;
        for (int i = 0; i < things.size(); i++) {
            if (things.get(i).heightOn(today, today) != NONE) {
                standing++;
            }
        }
        return standing;
    }

    /** Of the heights whose tip lies in the cell today the one nearest to a height, of two the lower. */
    private int nearestHeight(Thing t, int hour, int cell, int now) {
        int stepX = sky.sunX(today, hour) + t.leanX;
        int stepY = sky.sunY(today, hour) + t.leanY;
        int asideX = ground.columnOf(cell) - ground.columnOf(t.cell);
        int asideY = ground.rowOf(cell) - ground.rowOf(t.cell);
        int nearest = NONE;
        for (int j = 1; j <= MOST_HEIGHT; j++) {
            boolean inCell = cellsAside(j, stepX) == asideX && cellsAside(j, stepY) == asideY;
            if (inCell && (nearest == NONE || Math.abs(j - now) < Math.abs(nearest - now))) {
                nearest = j;
            }
        }
        return nearest;
    }

    /** Fills the row of holders: one pass over the grants serves all things at once. */
    private void findHolders(int day, int hour, int known) {
        for (int i = 0; i < things.size() && i < holders.length; i++) {
            holders[i] = things.get(i).owner;
        }
        for (int i = 0; i < grants.size(); i++) {
            Grant g = grants.get(i);
            int thing = g.thing;
            boolean fromHolder = thing >= 0 && thing < holders.length && holders[thing] == g.giver;
            if (fromHolder && g.told <= known && g.covers(day, hour) && g.holdsOn(day, known)) {
                holders[thing] = g.taker;
            }
        }
    }

    /** The things whose shade a person holds, as a set of bits. */
    private int heldBy(int person, int day, int hour, int known) {
        findHolders(day, hour, known);
        int held = 0;
        for (int i = 0; i < things.size() && i < holders.length; i++) {
            if (holders[i] == person) {
                held |= 1 << i;
            }
        }
        return held;
    }

    private long partsOnDay(int person, int day, int known) {
        scene.lookAt(day, known);
        long sum = 0;
        for (int hour = 0; hour < HOURS; hour++) {
            int held = heldBy(person, day, hour, known);
            if (held != 0) {
                scene.turnTo(hour);
                sum += scene.partsOfAll(held);
            }
        }
        return sum;
    }

    private long partsOverYear(int person, int day) {
        long sum = 0;
        for (int month = 0; month < MONTHS; month++) {
            sum += partsOnDay(person, day + DAYS_OF_MONTH * month, today);
        }
        return sum * DAYS_OF_MONTH;
    }

    /**
     * What a cell costs on the day and in the hour that the scene shows, by those of the things that shade it
     * that are asked about (a set of bits).
     */
    private long chargeOf(int cell, int hour, int stall, int asked) {
        int shaders = scene.shadersOf(cell);
        names[NAME_HOUR] = hour;
        names[NAME_MONTH] = monthOf(scene.day);
        names[NAME_DAY] = scene.day;
        names[NAME_MANY] = Integer.bitCount(shaders);
        names[NAME_STALL] = stall;
        long sum = 0;
        for (int i = 0; i < things.size() && shaders != 0; i++) {
            if ((shaders & asked & 1 << i) != 0) {
                names[NAME_HEIGHT] = scene.heightOf(i);
                names[NAME_KIND] = things.get(i).kind;
                names[NAME_THING] = i;
                sum += Math.max(0, inForce.answer(names));
            }
        }
        return sum;
    }

    private boolean mayTake(int stall, int hour, int cell) {
        if (!ground.has(cell) || !isStall(stall)) {
            return false;
        }
        Stall s = stalls.get(stall);
        if (s.to >= today && isBuiltOn(cell)) {
            return false;
        }
        for (int i = 0; i < stalls.size(); i++) {
            Stall other = stalls.get(i);
            if (i != stall && other.cellIn(hour) == cell && other.from <= s.to && s.from <= other.to) {
                return false;
            }
        }
        return true;
    }

    /** Leads the ways that are found back by an hour, over cells that can be reached from the walk's first one. */
    private void leadThroughHour(int hour, int from, int reach, boolean last) {
        for (int cell = 0; cell < ground.size; cell++) {
            if (ground.stepsBetween(from, cell) <= reach && mayWalk(cell, hour)) {
                int next = last ? cell : route.bestNext(cell);
                if (route.leadsOn(next)) {
                    int sunny = scene.shadersOf(cell) == 0 ? 1 : 0;
                    route.lead(hour, cell, next, sunny, chargeOf(cell, hour, NONE, ALL_THINGS));
                }
            }
        }
    }

    private boolean mayWalk(int cell, int hour) {
        for (int i = 0; i < stalls.size(); i++) {
            Stall s = stalls.get(i);
            if (s.isOn(scene.day) && s.cellIn(hour) == cell) {
                return false;
            }
        }
        return scene.isOpen(cell);
    }

    /** The cell of the best tree, or NONE; served tells then for each cell to how many places its tree would serve. */
    private int bestTree(int day, int height) {
        if (!isDay(day) || height < 1 || !isHeight(height)) {
            return NONE;
        }
        scene.lookAt(day, today);
        for (int cell = 0; cell < served.length; cell++) {
            served[cell] = scene.isOpen(cell) && !hasStall(cell, day) ? 0 : NONE;
        }
        for (int hour = 0; hour < HOURS; hour++) {
            if (!sky.isClouded(day, hour)) {
                scene.turnTo(hour);
                serveHour(hour, height);
            }
        }
        int best = NONE;
        int most = NONE;
        for (int cell = 0; cell < served.length; cell++) {
            if (served[cell] > most) {
                best = cell;
                most = served[cell];
            }
        }
        return best;
    }

    private boolean hasStall(int cell, int day) {
        for (int i = 0; i < stalls.size(); i++) {
            Stall s = stalls.get(i);
            if (s.isOn(day) && s.hasCell(cell)) {
                return true;
            }
        }
        return false;
    }

    private void serveHour(int hour, int height) {
        for (int i = 0; i < stalls.size(); i++) {
            Stall s = stalls.get(i);
            int place = s.cellIn(hour);
            if (s.isOn(scene.day) && scene.isOpen(place) && scene.shadersOf(place) == 0) {
                servePlace(place, hour, height);
            }
        }
    }

    /**
     * Counts the place for each cell whose tree would shade it. A shadow runs straight, so the cells that
     * it comes from do too: one that is met twice is met twice running, and beyond the ground are no more.
     */
    private void servePlace(int place, int hour, int height) {
        int stepX = sky.sunX(scene.day, hour);
        int stepY = sky.sunY(scene.day, hour);
        int x = ground.columnOf(place);
        int y = ground.rowOf(place);
        int last = place;
        for (int j = 1; j <= height && last != NONE; j++) {
            int cell = ground.cellAt(x - cellsAside(j, stepX), y - cellsAside(j, stepY));
            boolean another = cell != last && cell >= 0 && cell < served.length;
            if (another && served[cell] != NONE) {
                served[cell]++;
            }
            last = cell;
        }
    }

    /** The cells, row by row. */
    private static final class Ground {
        private final int wide;
        private final int high;
        private final int size;

        Ground(int wantedWide, int wantedHigh) {
            wide = Math.max(4, Math.min(16, wantedWide));
            high = Math.max(4, Math.min(12, wantedHigh));
            size = wide * high;
        }

        boolean has(int cell) {
            return cell >= 0 && cell < size;
        }

        int columnOf(int cell) {
            return wide > 0 ? cell % wide : 0;
        }

        int rowOf(int cell) {
            return wide > 0 ? cell / wide : 0;
        }

        int cellAt(int x, int y) {
            return x >= 0 && x < wide && y >= 0 && y < high ? y * wide + x : NONE;
        }

        int stepsBetween(int one, int other) {
            return Math.abs(columnOf(one) - columnOf(other)) + Math.abs(rowOf(one) - rowOf(other));
        }
    }

    /** The sun by months and hours, and the clouds. */
    private static final class Sky {
        private final int[] sunXs = new int[MONTHS * HOURS];
        private final int[] sunYs = new int[MONTHS * HOURS];
        private final int[] clouded = new int[MOST_CLOUDS];
        private int clouds;

        Sky() {
            for (int month = 0; month < MONTHS; month++) {
                for (int hour = 0; hour < HOURS; hour++) {
                    sunXs[month * HOURS + hour] = 20 * (2 * hour - 11);
                    sunYs[month * HOURS + hour] = 20 + 5 * Math.abs(month - 6);
                }
            }
        }

        void setSun(int month, int hour, int ux, int uy) {
            int slot = month * HOURS + hour;
            if (slot >= 0 && slot < sunXs.length) {
                sunXs[slot] = ux;
                sunYs[slot] = uy;
            }
        }

        int sunX(int day, int hour) {
            int slot = monthOf(day) * HOURS + hour;
            return slot >= 0 && slot < sunXs.length ? sunXs[slot] : 0;
        }

        int sunY(int day, int hour) {
            int slot = monthOf(day) * HOURS + hour;
            return slot >= 0 && slot < sunYs.length ? sunYs[slot] : 0;
        }

        boolean isClouded(int day, int hour) {
            for (int i = 0; i < clouds && i < clouded.length; i++) {
                if (clouded[i] == day * HOURS + hour) {
                    return true;
                }
            }
            return false;
        }

        int addCloud(int day, int hour) {
            if (clouds < 0 || clouds >= clouded.length) {
                return NONE;
            }
            clouded[clouds] = day * HOURS + hour;
            clouds++;
            return clouds;
        }
    }

    private static final class Person {
        private int diedDay = NONE;
        private int diedTold = NONE;

        boolean wasDead(int day, int known) {
            return diedDay != NONE && diedDay <= day && diedTold <= known;
        }
    }

    /** A wall, a tree or a pole, with all that was ever told of its height. */
    private static final class Thing {
        private final int kind;
        private final int cell;
        private final int owner;
        private final int from;
        private int grows;
        private int leanX;
        private int leanY;
        /** One entry more than can be told, for the bill of a height that is only asked about. */
        private final int[] days = new int[MOST_ENTRIES + 1];
        private final int[] heights = new int[MOST_ENTRIES + 1];
        private final int[] tolds = new int[MOST_ENTRIES + 1];
        private int entries;
        private int fellDay = NONE;
        private int fellTold = NONE;
        private int measured = NONE;

        Thing(int kind, int cell, int owner, int from) {
            this.kind = kind;
            this.cell = cell;
            this.owner = owner;
            this.from = from;
        }

        void tell(int day, int height, int told) {
            if (entries >= 0 && entries < days.length) {
                days[entries] = day;
                heights[entries] = height;
                tolds[entries] = told;
                entries++;
            }
        }

        void forgetLast() {
            if (entries > 0) {
                entries--;
            }
        }

        int entryValue(int i, int what) {
            if (i < 0 || i >= entries || i >= days.length) {
                return NONE;
            }
            switch (what) {
                case 0: return days[i];
                case 1: return heights[i];
                case 2: return tolds[i];
                default: return NONE;
            }
        }

        boolean hasFallen() {
            return fellDay != NONE;
        }

        int heightOn(int day, int known) {
            boolean hadFallen = hasFallen() && fellDay <= day && fellTold <= known;
            if (from > day || from > known || hadFallen) {
                return NONE;
            }
            int i = entryFor(day, known);
            if (i < 0 || i >= days.length) {
                return NONE;
            }
            return Math.min(MOST_HEIGHT, heights[i] + grownBetween(days[i], day));
        }

        /** The entry by which the thing has its height. */
        private int entryFor(int day, int known) {
            int found = NONE;
            int latest = NONE;
            for (int i = 0; i < entries && i < days.length; i++) {
                if (tolds[i] <= known && days[i] <= day && days[i] >= latest) {
                    found = i;
                    latest = days[i];
                }
            }
            return found;
        }

        private int grownBetween(int since, int until) {
            return grows > 0 ? (until - since) / grows : 0;
        }

        /** Tells on a day that the height is another one, back to where nothing speaks against it. */
        void mend(int height, int today) {
            int since = measured == NONE ? from : measured + 1;
            int i = entryFor(today, today);
            if (i >= 0 && i < days.length) {
                since = Math.max(since, days[i]);
            }
            tell(since, Math.max(0, height - grownBetween(since, today)), today);
        }
    }

    private static final class Grant {
        private final int giver;
        private final Person willer;
        private final int taker;
        private final int thing;
        private final int sort;
        private final int told;
        private int firstHour;
        private int lastHour;
        private int firstMonth;
        private int lastMonth;
        private int from;
        private int to;

        Grant(int giver, Person willer, int taker, int thing, int sort, int told) {
            this.giver = giver;
            this.willer = willer;
            this.taker = taker;
            this.thing = thing;
            this.sort = sort;
            this.told = told;
        }

        void limit(int hours, int months, int fromDay, int toDay) {
            firstHour = hours / 16;
            lastHour = hours % 16;
            firstMonth = months / 16;
            lastMonth = months % 16;
            from = fromDay;
            to = toDay;
        }

        boolean covers(int day, int hour) {
            if (hour < firstHour || hour > lastHour) {
                return false;
            }
            int month = monthOf(day);
            if (firstMonth <= lastMonth) {
                return month >= firstMonth && month <= lastMonth;
            }
            return month >= firstMonth || month <= lastMonth;
        }

        boolean holdsOn(int day, int known) {
            switch (sort) {
                case SALE: return day >= from;
                case LEASE: return day >= from && day <= to;
                case WILL: return willer != null && willer.wasDead(day, known);
                default: return false;
            }
        }
    }

    private static final class Stall {
        private final int from;
        private final int to;
        private final int[] places = new int[HOURS];

        Stall(int from, int to) {
            this.from = from;
            this.to = to;
            Arrays.fill(places, NONE);
        }

        boolean isOn(int day) {
            return day >= from && day <= to;
        }

        void put(int hour, int cell) {
            if (hour >= 0 && hour < places.length) {
                places[hour] = cell;
            }
        }

        int cellIn(int hour) {
            return hour >= 0 && hour < places.length ? places[hour] : NONE;
        }

        boolean hasCell(int cell) {
            for (int hour = 0; hour < places.length; hour++) {
                if (places[hour] == cell) {
                    return true;
                }
            }
            return false;
        }
    }

    /** The ground on one day, as it was known on another, and in one hour of it: rows that are used again. */
    private static final class Scene {
        private final Ground ground;
        private final Sky sky;
        private final ArrayList<Thing> things;
        private final int[] heights = new int[MOST_THINGS];
        private final boolean[] built;
        private final int[] shaders;
        private int day;

        Scene(Ground ground, Sky sky, ArrayList<Thing> things) {
            this.ground = ground;
            this.sky = sky;
            this.things = things;
            built = new boolean[ground.size];
            shaders = new int[ground.size];
        }

        void lookAt(int onDay, int known) {
            day = onDay;
            for (int cell = 0; cell < built.length; cell++) {
                built[cell] = false;
            }
            for (int i = 0; i < things.size() && i < heights.length; i++) {
                Thing t = things.get(i);
                heights[i] = t.heightOn(onDay, known);
                if (heights[i] != NONE && t.cell >= 0 && t.cell < built.length) {
                    built[t.cell] = true;
                }
            }
        }

        void turnTo(int hour) {
            Arrays.fill(shaders, 0);
            if (sky.isClouded(day, hour)) {
                return;
            }
            int sunX = sky.sunX(day, hour);
            int sunY = sky.sunY(day, hour);
            for (int i = 0; i < things.size() && i < heights.length; i++) {
                Thing t = things.get(i);
                castShadow(i, t.cell, sunX + t.leanX, sunY + t.leanY);
            }
        }

        /** A shadow runs straight: where it leaves the ground it doesn't come back. Its own cell is built on. */
        private void castShadow(int thing, int from, int stepX, int stepY) {
            int right = HUNDREDTHS * ground.wide;
            int bottom = HUNDREDTHS * ground.high;
            int highest = heightOf(thing);
            int x = HUNDREDTHS * ground.columnOf(from) + MIDDLE;
            int y = HUNDREDTHS * ground.rowOf(from) + MIDDLE;
            for (int j = 1; j <= highest; j++) {
                x += stepX;
                y += stepY;
                if (x < 0 || x >= right || y < 0 || y >= bottom) {
                    return;
                }
                int cell = y / HUNDREDTHS * ground.wide + x / HUNDREDTHS;
                if (cell < built.length && !built[cell]) {
                    shaders[cell] |= 1 << thing;
                }
            }
        }

        int heightOf(int thing) {
            return thing >= 0 && thing < heights.length ? heights[thing] : NONE;
        }

        boolean isOpen(int cell) {
            return cell >= 0 && cell < built.length && !built[cell];
        }

        /** The first twelve of the things whose shadows have the cell. */
        int shadersOf(int cell) {
            if (cell < 0 || cell >= shaders.length) {
                return 0;
            }
            int beyond = shaders[cell];
            for (int i = 0; i < MOST_SHADERS && beyond != 0; i++) {
                beyond &= beyond - 1;
            }
            return shaders[cell] & ~beyond;
        }

        int partsOf(int held, int cell) {
            int all = shadersOf(cell);
            int many = Integer.bitCount(all);
            return many > 0 ? PARTS_OF_CELL / many * Integer.bitCount(all & held) : 0;
        }

        long partsOfAll(int held) {
            long sum = 0;
            for (int cell = 0; cell < shaders.length; cell++) {
                if ((shaders[cell] & held) != 0) {
                    sum += partsOf(held, cell);
                }
            }
            return sum;
        }

        int cellsShadedBy(int thing) {
            int many = 0;
            for (int cell = 0; cell < shaders.length; cell++) {
                if ((shaders[cell] >> thing & 1) != 0) {
                    many++;
                }
            }
            return many;
        }
    }

    /** The search for the best walk, from its last hour back, and the latest walk that was found. */
    private static final class Route {
        /** The cells that a step can lead to, the lowest first. */
        private static final int[] STEPS_X = {0, -1, 0, 1, 0};
        private static final int[] STEPS_Y = {-1, 0, 0, 0, 1};

        private final Ground ground;
        private final int[] nexts;
        private final int[] path = new int[HOURS];
        private int[] sunny;
        private int[] sunnyAfter;
        private long[] costs;
        private long[] costsAfter;
        private int pathLength;
        private long pathCost = NONE;

        Route(Ground ground) {
            this.ground = ground;
            nexts = new int[HOURS * ground.size];
            sunny = new int[ground.size];
            sunnyAfter = new int[ground.size];
            costs = new long[ground.size];
            costsAfter = new long[ground.size];
        }

        void startFromBehind(int to) {
            Arrays.fill(sunny, NONE);
            if (to >= 0 && to < sunny.length) {
                sunny[to] = 0;
                costs[to] = 0;
            }
        }

        void goBackAnHour() {
            int[] row = sunnyAfter;
            sunnyAfter = sunny;
            sunny = row;
            long[] costRow = costsAfter;
            costsAfter = costs;
            costs = costRow;
            Arrays.fill(sunny, NONE);
        }

        boolean leadsOn(int cell) {
            return cell >= 0 && cell < sunnyAfter.length && sunnyAfter[cell] != NONE;
        }

        /** Where to go on from a cell; of like ways the one by the lowest cell. */
        int bestNext(int cell) {
            int x = ground.columnOf(cell);
            int y = ground.rowOf(cell);
            int best = NONE;
            for (int i = 0; i < STEPS_X.length && i < STEPS_Y.length; i++) {
                int next = ground.cellAt(x + STEPS_X[i], y + STEPS_Y[i]);
                if (leadsOn(next) && (best == NONE || isBetter(next, best))) {
                    best = next;
                }
            }
            return best;
        }

        private boolean isBetter(int one, int other) {
            if (!leadsOn(one) || !leadsOn(other)) {
                return false;
            }
            if (sunnyAfter[one] != sunnyAfter[other]) {
                return sunnyAfter[one] < sunnyAfter[other];
            }
            return costsAfter[one] < costsAfter[other];
        }

        void lead(int hour, int cell, int next, int sunnyHere, long costHere) {
            int slot = hour * ground.size + cell;
            if (cell < 0 || cell >= sunny.length || slot < 0 || slot >= nexts.length || !leadsOn(next)) {
                return;
            }
            nexts[slot] = next;
            sunny[cell] = sunnyAfter[next] + sunnyHere;
            costs[cell] = costsAfter[next] + costHere;
        }

        /** Keeps the walk that was found and tells its sunny hours; NONE without one. */
        int follow(int from, int fromHour, int toHour) {
            if (from < 0 || from >= sunny.length || sunny[from] == NONE) {
                return NONE;
            }
            pathLength = 0;
            pathCost = costs[from];
            int cell = from;
            for (int hour = fromHour; hour <= toHour && pathLength < path.length; hour++) {
                path[pathLength] = cell;
                pathLength++;
                int slot = hour * ground.size + cell;
                cell = slot >= 0 && slot < nexts.length ? nexts[slot] : NONE;
            }
            return sunny[from];
        }

        long charges() {
            return pathCost;
        }

        int cellOfPath(int i) {
            return i >= 0 && i < pathLength && i < path.length ? path[i] : NONE;
        }
    }

    /**
     * The bytes of a text that is on its way to become the tariff, and its tokens, the end as the last one.
     * The numbers of the kinds are also those of the steps in a tariff's code.
     */
    private static final class Tape {
        private static final int END = 0;
        private static final int BAD = 1;
        private static final int NUMBER = 2;
        private static final int NAME = 3;
        private static final int WHEN = 4;
        private static final int GIVE = 5;
        private static final int OR = 6;
        private static final int AND = 7;
        private static final int NOT = 8;
        private static final int MIN = 9;
        private static final int MAX = 10;
        private static final int LESS = 11;
        private static final int AT_MOST = 12;
        private static final int MORE = 13;
        private static final int AT_LEAST = 14;
        private static final int LIKE = 15;
        private static final int UNLIKE = 16;
        private static final int PLUS = 17;
        private static final int MINUS = 18;
        private static final int TIMES = 19;
        private static final int OVER = 20;
        private static final int OPEN = 21;
        private static final int CLOSE = 22;
        private static final int OPEN_ASK = 23;
        private static final int CLOSE_ASK = 24;
        private static final int COMMA = 25;
        private static final int SEMICOLON = 26;

        private static final int MOST_NUMBER = 100000;

        private final int[] bytes = new int[MOST_BYTES];
        private int length;
        private final int[] kinds = new int[MOST_BYTES + 1];
        private final int[] starts = new int[MOST_BYTES + 1];
        private final int[] values = new int[MOST_BYTES + 1];
        private int tokens;

        void addFour(int word) {
            for (int shift = 24; shift >= 0 && length >= 0 && length < bytes.length; shift -= 8) {
                bytes[length] = word >> shift & 255;
                length++;
            }
        }

        void cutIntoTokens() {
            tokens = 0;
            int i = 0;
            for (int turn = 0; turn < MOST_BYTES && i < length; turn++) {
                int sign = byteAt(i);
                if (isLetter(sign)) {
                    int behind = endOfLetters(i);
                    addWord(i, behind);
                    i = behind;
                } else if (isDigit(sign)) {
                    int behind = endOfDigits(i);
                    addToken(NUMBER, i, numberOf(i, behind));
                    i = behind;
                } else if ((sign == '<' || sign == '>') && byteAt(i + 1) == '=') {
                    addToken(sign == '<' ? AT_MOST : AT_LEAST, i, 0);
                    i += 2;
                } else {
                    if (sign != ' ' && sign != '\n') {
                        addToken(kindOfSign(sign), i, 0);
                    }
                    i++;
                }
            }
            addToken(END, length, 0);
        }

        int kindOf(int token) {
            return token >= 0 && token < tokens && token < kinds.length ? kinds[token] : END;
        }

        int startOf(int token) {
            return token >= 0 && token < tokens && token < starts.length ? starts[token] : NONE;
        }

        int valueOf(int token) {
            return token >= 0 && token < tokens && token < values.length ? values[token] : 0;
        }

        private int byteAt(int i) {
            return i >= 0 && i < length && i < bytes.length ? bytes[i] : NONE;
        }

        private void addToken(int kind, int start, int value) {
            if (tokens >= 0 && tokens < kinds.length) {
                kinds[tokens] = kind;
                starts[tokens] = start;
                values[tokens] = value;
                tokens++;
            }
        }

        private static boolean isLetter(int sign) {
            return (sign >= 'a' && sign <= 'z') || (sign >= 'A' && sign <= 'Z');
        }

        private static boolean isDigit(int sign) {
            return sign >= '0' && sign <= '9';
        }

        private int endOfLetters(int from) {
            int i = from;
            while (i < length && isLetter(byteAt(i))) {
                i++;
            }
            return i;
        }

        private int endOfDigits(int from) {
            int i = from;
            while (i < length && isDigit(byteAt(i))) {
                i++;
            }
            return i;
        }

        /** Any number that is too great comes as the first one that is. */
        private int numberOf(int from, int to) {
            int number = 0;
            for (int i = from; i < to; i++) {
                number = Math.min(MOST_NUMBER + 1, 10 * number + byteAt(i) - '0');
            }
            return number;
        }

        private void addWord(int from, int to) {
            int name = nameOf(from, to);
            if (name == NONE) {
                addToken(kindOfWord(from, to), from, 0);
            } else {
                addToken(NAME, from, name);
            }
        }

        private int nameOf(int from, int to) {
            if (isWord(from, to, "hour")) {
                return NAME_HOUR;
            } else if (isWord(from, to, "month")) {
                return NAME_MONTH;
            } else if (isWord(from, to, "day")) {
                return NAME_DAY;
            } else if (isWord(from, to, "height")) {
                return NAME_HEIGHT;
            } else if (isWord(from, to, "many")) {
                return NAME_MANY;
            } else if (isWord(from, to, "kind")) {
                return NAME_KIND;
            } else if (isWord(from, to, "thing")) {
                return NAME_THING;
            } else if (isWord(from, to, "stall")) {
                return NAME_STALL;
            }
            return NONE;
        }

        private int kindOfWord(int from, int to) {
            if (isWord(from, to, "when")) {
                return WHEN;
            } else if (isWord(from, to, "give")) {
                return GIVE;
            } else if (isWord(from, to, "or")) {
                return OR;
            } else if (isWord(from, to, "and")) {
                return AND;
            } else if (isWord(from, to, "not")) {
                return NOT;
            } else if (isWord(from, to, "min")) {
                return MIN;
            } else if (isWord(from, to, "max")) {
                return MAX;
            }
            return BAD;
        }

        private boolean isWord(int from, int to, String word) {
            if (word == null || to - from != word.length()) {
                return false;
            }
            for (int i = 0; i < word.length(); i++) {
                if (byteAt(from + i) != word.charAt(i)) {
                    return false;
                }
            }
            return true;
        }

        private static int kindOfSign(int sign) {
            switch (sign) {
                case '<': return LESS;
                case '>': return MORE;
                case '=': return LIKE;
                case '#': return UNLIKE;
                case '+': return PLUS;
                case '-': return MINUS;
                case '*': return TIMES;
                case '/': return OVER;
                case '(': return OPEN;
                case ')': return CLOSE;
                case '[': return OPEN_ASK;
                case ']': return CLOSE_ASK;
                case ',': return COMMA;
                case ';': return SEMICOLON;
                default: return BAD;
            }
        }
    }

    /** Rules as code that works on a stack: of each rule what it asks, then what it gives. */
    private static final class Tariff {
        private static final long MOST = 1000000000L;
        /** Ten nestings leave at most three values waiting each, so this is never filled. */
        private static final int STACK = 64;
        /** The step of a single minus: of no token's kind, since a minus alone takes one from the other. */
        private static final int NEGATE = 27;

        private final int[] steps = new int[MOST_BYTES];
        private final int[] values = new int[MOST_BYTES];
        private final int[] endsOfAsk = new int[MOST_RULES];
        private final int[] endsOfRule = new int[MOST_RULES];
        private final long[] stack = new long[STACK];
        private int length;
        private int rules;

        void clear() {
            length = 0;
            rules = 0;
        }

        void add(int step, int value) {
            if (length >= 0 && length < steps.length) {
                steps[length] = step;
                values[length] = value;
                length++;
            }
        }

        void endAsk() {
            if (rules >= 0 && rules < endsOfAsk.length) {
                endsOfAsk[rules] = length;
            }
        }

        void endRule() {
            if (rules >= 0 && rules < endsOfRule.length) {
                endsOfRule[rules] = length;
                rules++;
            }
        }

        int answer(int[] names) {
            int start = 0;
            for (int i = 0; i < rules && i < endsOfRule.length; i++) {
                boolean always = endsOfAsk[i] == start;
                if (always || run(start, endsOfAsk[i], names) != 0) {
                    return (int) run(endsOfAsk[i], endsOfRule[i], names);
                }
                start = endsOfRule[i];
            }
            return 0;
        }

        private long run(int from, int to, int[] names) {
            int top = 0;
            for (int i = Math.max(0, from); i < to && i < length; i++) {
                int step = steps[i];
                if (step == Tape.NUMBER || step == Tape.NAME) {
                    if (top < stack.length) {
                        stack[top] = step == Tape.NUMBER ? values[i] : valueOf(names, values[i]);
                        top++;
                    }
                } else if (step == Tape.NOT || step == NEGATE) {
                    if (top > 0) {
                        stack[top - 1] = step == Tape.NOT ? 1 - stack[top - 1] : -stack[top - 1];
                    }
                } else if (top > 1) {
                    top--;
                    stack[top - 1] = join(step, stack[top - 1], stack[top]);
                }
            }
            return top > 0 ? stack[0] : 0;
        }

        private static long valueOf(int[] names, int name) {
            return names != null && name >= 0 && name < names.length ? names[name] : 0;
        }

        private static long join(int step, long a, long b) {
            switch (step) {
                case Tape.PLUS: return bounded(a + b);
                case Tape.MINUS: return bounded(a - b);
                case Tape.TIMES: return bounded(a * b);
                case Tape.OVER: return b == 0 ? 0 : a / b;
                case Tape.MIN: return Math.min(a, b);
                case Tape.MAX: return Math.max(a, b);
                case Tape.LESS: return a < b ? 1 : 0;
                case Tape.AT_MOST: return a <= b ? 1 : 0;
                case Tape.MORE: return a > b ? 1 : 0;
                case Tape.AT_LEAST: return a >= b ? 1 : 0;
                case Tape.LIKE: return a == b ? 1 : 0;
                case Tape.UNLIKE: return a != b ? 1 : 0;
                case Tape.AND: return a & b;
                case Tape.OR: return a | b;
                default: return 0;
            }
        }

        private static long bounded(long value) {
            if (value > MOST) {
                return MOST;
            }
            return value < -MOST ? -MOST : value;
        }
    }

    /**
     * Reads a tape's tokens into a tariff. After a fault no token fits any more, so every method runs out
     * by itself, and the first fault and its place stay. Depth is how many of ( [ not and single - are open.
     */
    private static final class Parser {
        private static final int MISPLACED = 1;
        private static final int TOO_GREAT = 2;
        private static final int TOO_DEEP = 3;
        private static final int TOO_MANY = 4;
        private static final int MOST_DEPTH = 10;

        private final Tape tape;
        private Tariff target;
        private int at;
        private int kind;
        private int faultKind;
        private int faultPlace;

        Parser(Tape tape, Tariff target) {
            this.tape = tape;
            this.target = target;
        }

        /** Whether the tape is without a fault; the tariff is of use then alone. */
        boolean parseInto(Tariff tariff) {
            target = tariff;
            target.clear();
            tape.cutIntoTokens();
            at = 0;
            kind = tape.kindOf(0);
            faultKind = 0;
            faultPlace = NONE;
            for (int i = 0; i <= MOST_RULES && kind != Tape.END && faultKind == 0; i++) {
                rule();
            }
            if (faultKind != 0) {
                faultPlace = tape.startOf(at);
            }
            return faultKind == 0;
        }

        private void fail(int fault) {
            if (faultKind == 0) {
                faultKind = fault;
                kind = Tape.BAD;
            }
        }

        private void advance() {
            at++;
            kind = tape.kindOf(at);
        }

        private void pass(int wanted) {
            if (kind == wanted) {
                advance();
            } else {
                fail(MISPLACED);
            }
        }

        /** Passes a token that opens a nesting, if one more may be open. */
        private boolean open(int wanted, int depth) {
            if (kind == wanted && depth < MOST_DEPTH) {
                advance();
                return true;
            }
            fail(kind == wanted ? TOO_DEEP : MISPLACED);
            return false;
        }

        private void rule() {
            if (kind != Tape.WHEN && kind != Tape.GIVE) {
                fail(MISPLACED);
                return;
            }
            if (target.rules >= MOST_RULES) {
                fail(TOO_MANY);
                return;
            }
            if (kind == Tape.WHEN) {
                advance();
                either(0);
            }
            target.endAsk();
            pass(Tape.GIVE);
            sum(0);
            pass(Tape.SEMICOLON);
            target.endRule();
        }

        private void either(int depth) {
            both(depth);
            for (int i = 0; i < MOST_BYTES && kind == Tape.OR; i++) {
                advance();
                both(depth);
                target.add(Tape.OR, 0);
            }
        }

        private void both(int depth) {
            ask(depth);
            for (int i = 0; i < MOST_BYTES && kind == Tape.AND; i++) {
                advance();
                ask(depth);
                target.add(Tape.AND, 0);
            }
        }

        private void ask(int depth) {
            if (kind == Tape.NOT) {
                if (open(Tape.NOT, depth)) {
                    ask(depth + 1);
                    target.add(Tape.NOT, 0);
                }
            } else if (kind == Tape.OPEN_ASK) {
                if (open(Tape.OPEN_ASK, depth)) {
                    either(depth + 1);
                    pass(Tape.CLOSE_ASK);
                }
            } else {
                sum(depth);
                int sign = kind;
                if (sign >= Tape.LESS && sign <= Tape.UNLIKE) {
                    advance();
                    sum(depth);
                    target.add(sign, 0);
                } else {
                    fail(MISPLACED);
                }
            }
        }

        private void sum(int depth) {
            product(depth);
            for (int i = 0; i < MOST_BYTES && (kind == Tape.PLUS || kind == Tape.MINUS); i++) {
                int sign = kind;
                advance();
                product(depth);
                target.add(sign, 0);
            }
        }

        private void product(int depth) {
            one(depth);
            for (int i = 0; i < MOST_BYTES && (kind == Tape.TIMES || kind == Tape.OVER); i++) {
                int sign = kind;
                advance();
                one(depth);
                target.add(sign, 0);
            }
        }

        private void one(int depth) {
            int first = kind;
            switch (first) {
                case Tape.NUMBER:
                case Tape.NAME:
                    value();
                    break;
                case Tape.OPEN:
                    if (open(Tape.OPEN, depth)) {
                        sum(depth + 1);
                        pass(Tape.CLOSE);
                    }
                    break;
                case Tape.MINUS:
                    if (open(Tape.MINUS, depth)) {
                        one(depth + 1);
                        target.add(Tariff.NEGATE, 0);
                    }
                    break;
                case Tape.MIN:
                case Tape.MAX:
                    advance();
                    if (open(Tape.OPEN, depth)) {
                        sum(depth + 1);
                        pass(Tape.COMMA);
                        sum(depth + 1);
                        pass(Tape.CLOSE);
                        target.add(first, 0);
                    }
                    break;
                default:
                    fail(MISPLACED);
            }
        }

        private void value() {
            int value = tape.valueOf(at);
            if (kind == Tape.NUMBER && value > Tape.MOST_NUMBER) {
                fail(TOO_GREAT);
            } else {
                target.add(kind, value);
                advance();
            }
        }
    }
}
