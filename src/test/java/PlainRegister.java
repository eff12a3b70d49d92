import java.math.BigInteger;
import java.util.ArrayList;
import java.util.HashSet;
import java.util.LinkedHashSet;
import java.util.List;
import java.util.Set;
import java.util.TreeSet;
import java.util.function.ToLongFunction;

/**
 * The document's words a second time, written as slowly and as near to them as can be: sets of cells, all walks
 * one by one as lists, trees of rules. AgainstPlainTest asks it and ShadeRegister the same.
 */
final class PlainRegister {
    static final int NONE = -1;

    static final class Entry {
        int day;
        int height;
        int told;

        Entry(int day, int height, int told) {
            this.day = day;
            this.height = height;
            this.told = told;
        }
    }

    static final class Thing {
        int kind;
        int cell;
        int owner;
        int from;
        int grows;
        int lx;
        int ly;
        List<Entry> entries = new ArrayList<>();
        Integer fell;
        int fellTold;
        Integer measured;
    }

    static final class Grant {
        int giver;
        int taker;
        int thing;
        Set<Integer> hours = new HashSet<>();
        Set<Integer> months = new HashSet<>();
        int from;
        int to;
        int sort;
        int told;
    }

    static final class Stall {
        int from;
        int to;
        Integer[] places = new Integer[12];
    }

    static final class Fault extends RuntimeException {
        private static final long serialVersionUID = 1L;
        final int kind;
        final int place;

        Fault(int kind, int place) {
            this.kind = kind;
            this.place = place;
        }
    }

    static final class Rule {
        ToLongFunction<long[]> ask;
        ToLongFunction<long[]> sum;
    }

    final int wide;
    final int high;
    int clock;
    final int[][][] sun = new int[12][12][2];
    final Set<List<Integer>> clouds = new LinkedHashSet<>();
    final List<Integer[]> persons = new ArrayList<>();
    final List<Thing> things = new ArrayList<>();
    final List<Grant> grants = new ArrayList<>();
    final List<Stall> stalls = new ArrayList<>();
    String tape = "";
    List<Rule> rules = new ArrayList<>();
    Integer faultKind;
    Integer faultPlace;
    List<Integer> walk;
    long walkCharges;

    PlainRegister(int w, int h) {
        wide = w < 4 ? 4 : w > 16 ? 16 : w;
        high = h < 4 ? 4 : h > 12 ? 12 : h;
        for (int m = 0; m < 12; m++) {
            for (int hour = 0; hour < 12; hour++) {
                sun[m][hour][0] = 20 * (2 * hour - 11);
                sun[m][hour][1] = 20 + 5 * Math.abs(m - 6);
            }
        }
    }

    static boolean in(int x, int low, int top) {
        return low <= x && x <= top;
    }

    static boolean day(int... days) {
        for (int d : days) {
            if (!in(d, 0, 3599)) {
                return false;
            }
        }
        return true;
    }

    boolean cell(int c) {
        return in(c, 0, wide * high - 1);
    }

    boolean isPerson(int p) {
        return in(p, 0, persons.size() - 1);
    }

    boolean isThing(int t) {
        return in(t, 0, things.size() - 1);
    }

    static int month(int d) {
        return d % 360 / 30;
    }

    int days(int n) {
        if (!in(n, 1, 400) || clock + n > 3599) {
            return NONE;
        }
        return clock += n;
    }

    boolean sun(int m, int h, int ux, int uy) {
        if (!in(m, 0, 11) || !in(h, 0, 11) || !in(ux, -300, 300) || !in(uy, -300, 300)) {
            return false;
        }
        sun[m][h] = new int[] {ux, uy};
        return true;
    }

    int cloud(int d, int h) {
        if (!day(d) || !in(h, 0, 11) || clouds.size() == 60 || !clouds.add(List.of(d, h))) {
            return NONE;
        }
        return clouds.size();
    }

    int person() {
        if (persons.size() == 16) {
            return NONE;
        }
        persons.add(null);
        return persons.size() - 1;
    }

    boolean died(int p, int d) {
        if (!isPerson(p) || !in(d, 0, clock) || persons.get(p) != null) {
            return false;
        }
        persons.set(p, new Integer[] {d, clock});
        return true;
    }

    int add(int kind, int cell, int owner, int height, int grows, int lx, int ly) {
        if (!cell(cell) || !isPerson(owner) || !in(height, 0, 60) || things.size() == 24) {
            return NONE;
        }
        if (kind == 1 && !in(grows, 1, 999) || kind == 2 && (!in(lx, -50, 50) || !in(ly, -50, 50))) {
            return NONE;
        }
        for (Thing t : things) {
            if (t.cell == cell && t.fell == null) {
                return NONE;
            }
        }
        for (Stall s : stalls) {
            for (int d = clock; d <= 3599; d++) {
                for (int h = 0; h < 12; h++) {
                    if (in(d, s.from, s.to) && s.places[h] != null && s.places[h] == cell) {
                        return NONE;
                    }
                }
            }
        }
        Thing t = new Thing();
        t.kind = kind;
        t.cell = cell;
        t.owner = owner;
        t.from = clock;
        t.grows = grows;
        t.lx = lx;
        t.ly = ly;
        t.entries.add(new Entry(clock, height, clock));
        things.add(t);
        return things.size() - 1;
    }

    int wall(int cell, int owner, int height) {
        return add(0, cell, owner, height, 0, 0, 0);
    }

    int tree(int cell, int owner, int height, int grows) {
        return add(1, cell, owner, height, grows, 0, 0);
    }

    int pole(int cell, int owner, int height, int lx, int ly) {
        return add(2, cell, owner, height, 0, lx, ly);
    }

    int raise(int n, int d, int height) {
        if (!isThing(n) || !in(d, things.get(n).from, 3599) || !in(height, 0, 60)) {
            return NONE;
        }
        Thing t = things.get(n);
        if (t.fell != null || t.entries.size() == 40) {
            return NONE;
        }
        t.entries.add(new Entry(d, height, clock));
        return t.entries.size();
    }

    boolean fell(int n, int d) {
        if (!isThing(n) || !in(d, things.get(n).from, clock) || things.get(n).fell != null) {
            return false;
        }
        things.get(n).fell = d;
        things.get(n).fellTold = clock;
        return true;
    }

    static Entry ruling(Thing t, int d, int k) {
        Entry found = null;
        for (Entry e : t.entries) {
            if (e.told <= k && e.day <= d && (found == null || e.day >= found.day)) {
                found = e;
            }
        }
        return found;
    }

    static int heightOf(Thing t, int d, int k) {
        if (t.from > d || t.from > k || t.fell != null && t.fell <= d && t.fellTold <= k) {
            return NONE;
        }
        Entry e = ruling(t, d, k);
        return Math.min(60, t.kind == 1 ? e.height + (d - e.day) / t.grows : e.height);
    }

    int height(int n, int d, int k) {
        return isThing(n) && day(d, k) ? heightOf(things.get(n), d, k) : NONE;
    }

    /** The cell of the point of a height, as a pair, on the ground or not. */
    List<Integer> tip(int cell, int lx, int ly, int d, int h, int j) {
        int[] u = sun[month(d)][h];
        int px = 100 * (cell % wide) + 50 + j * (u[0] + lx);
        int py = 100 * (cell / wide) + 50 + j * (u[1] + ly);
        return List.of(Math.floorDiv(px, 100), Math.floorDiv(py, 100));
    }

    Set<Integer> shadowFrom(int cell, int lx, int ly, int d, int h, int height) {
        Set<Integer> cells = new TreeSet<>();
        if (clouds.contains(List.of(d, h))) {
            return cells;
        }
        for (int j = 1; j <= height; j++) {
            List<Integer> at = tip(cell, lx, ly, d, h, j);
            if (in(at.get(0), 0, wide - 1) && in(at.get(1), 0, high - 1)) {
                cells.add(at.get(1) * wide + at.get(0));
            }
        }
        cells.remove(cell);
        return cells;
    }

    Set<Integer> shadowOf(Thing t, int d, int h, int k) {
        return shadowFrom(t.cell, t.lx, t.ly, d, h, heightOf(t, d, k));
    }

    boolean open(int cell, int d, int k) {
        for (Thing t : things) {
            if (t.cell == cell && heightOf(t, d, k) != NONE) {
                return false;
            }
        }
        return true;
    }

    List<Integer> shadedBy(int cell, int d, int h, int k) {
        List<Integer> by = new ArrayList<>();
        for (int n = 0; n < things.size() && by.size() < 12; n++) {
            if (open(cell, d, k) && shadowOf(things.get(n), d, h, k).contains(cell)) {
                by.add(n);
            }
        }
        return by;
    }

    int measure(int n, int h, int cell) {
        if (!isThing(n) || !in(h, 0, 11) || !cell(cell)) {
            return NONE;
        }
        Thing t = things.get(n);
        int now = heightOf(t, clock, clock);
        if (now == NONE || t.measured != null && t.measured == clock || clouds.contains(List.of(clock, h))) {
            return NONE;
        }
        List<Integer> so = new ArrayList<>();
        for (int j = 1; j <= 60; j++) {
            if (tip(t.cell, t.lx, t.ly, clock, h, j).equals(List.of(cell % wide, cell / wide))) {
                so.add(j);
            }
        }
        if (so.isEmpty()) {
            return NONE;
        }
        if (!so.contains(now)) {
            if (t.entries.size() == 40) {
                return NONE;
            }
            int since = t.measured == null ? t.from : t.measured + 1;
            since = Math.max(since, ruling(t, clock, clock).day);
            so.sort((a, b) -> Math.abs(a - now) != Math.abs(b - now) ? Math.abs(a - now) - Math.abs(b - now) : a - b);
            int grown = t.kind == 1 ? (clock - since) / t.grows : 0;
            t.entries.add(new Entry(since, Math.max(0, so.get(0) - grown), clock));
        }
        t.measured = clock;
        return heightOf(t, clock, clock);
    }

    int thing(int n, int what) {
        if (!isThing(n) || !in(what, 0, 7)) {
            return NONE;
        }
        Thing t = things.get(n);
        return new int[] {t.kind, t.cell, t.owner, t.from, t.entries.size(), t.fell == null ? NONE : t.fell,
            t.measured == null ? NONE : t.measured, t.grows}[what];
    }

    int entry(int n, int i, int what) {
        if (!isThing(n) || !in(i, 0, things.get(n).entries.size() - 1) || !in(what, 0, 2)) {
            return NONE;
        }
        Entry e = things.get(n).entries.get(i);
        return new int[] {e.day, e.height, e.told}[what];
    }

    int grant(int giver, int taker, int thing, int hours, int months, int from, int to, int sort) {
        if (!isPerson(giver) || !isPerson(taker) || giver == taker || !isThing(thing) || !in(sort, 0, 2)) {
            return NONE;
        }
        if (!day(from, to) || to < from || grants.size() == 60) {
            return NONE;
        }
        Grant g = new Grant();
        boolean sound = false;
        for (int a = 0; a < 12; a++) {
            for (int b = a; b < 12; b++) {
                if (16 * a + b == hours) {
                    for (int h = a; h <= b; h++) {
                        g.hours.add(h);
                    }
                    sound = true;
                }
            }
        }
        if (!sound || months < 0 || months / 16 > 11 || months % 16 > 11) {
            return NONE;
        }
        for (int m = months / 16; m != months % 16; m = (m + 1) % 12) {
            g.months.add(m);
        }
        g.months.add(months % 16);
        g.giver = giver;
        g.taker = taker;
        g.thing = thing;
        g.from = from;
        g.to = to;
        g.sort = sort;
        g.told = clock;
        grants.add(g);
        return grants.size() - 1;
    }

    int holderOf(int n, int d, int h, int k) {
        int holder = things.get(n).owner;
        for (Grant g : grants) {
            Integer[] died = persons.get(g.giver);
            boolean holds = g.sort == 0 ? d >= g.from
                : g.sort == 1 ? in(d, g.from, g.to)
                : died != null && died[0] <= d && died[1] <= k;
            if (g.told <= k && g.thing == n && g.hours.contains(h) && g.months.contains(month(d)) && holds
                && g.giver == holder) {
                holder = g.taker;
            }
        }
        return holder;
    }

    int holder(int n, int d, int h, int k) {
        if (!isThing(n) || !day(d, k) || !in(h, 0, 11) || heightOf(things.get(n), d, k) == NONE) {
            return NONE;
        }
        return holderOf(n, d, h, k);
    }

    int shaded(int cell, int d, int h, int k) {
        if (!cell(cell) || !day(d, k) || !in(h, 0, 11)) {
            return NONE;
        }
        int bits = 0;
        for (int n : shadedBy(cell, d, h, k)) {
            bits += 1 << n;
        }
        return bits;
    }

    int parts(int p, int cell, int d, int h, int k) {
        if (!isPerson(p) || !cell(cell) || !day(d, k) || !in(h, 0, 11)) {
            return NONE;
        }
        List<Integer> by = shadedBy(cell, d, h, k);
        int sum = 0;
        for (int n : by) {
            sum += holderOf(n, d, h, k) == p ? 27720 / by.size() : 0;
        }
        return sum;
    }

    int shadow(int n, int d, int h, int k) {
        if (!isThing(n) || !day(d, k) || !in(h, 0, 11)) {
            return NONE;
        }
        int many = 0;
        for (int c : shadowOf(things.get(n), d, h, k)) {
            many += open(c, d, k) ? 1 : 0;
        }
        return many;
    }

    /** All parts of a day by persons. */
    long[] partsOfDay(int d, int k) {
        long[] sums = new long[persons.size()];
        for (int h = 0; h < 12; h++) {
            List<List<Integer>> by = new ArrayList<>();
            for (int c = 0; c < wide * high; c++) {
                by.add(new ArrayList<>());
            }
            for (int n = 0; n < things.size(); n++) {
                for (int c : shadowOf(things.get(n), d, h, k)) {
                    by.get(c).add(n);
                }
            }
            for (int c = 0; c < wide * high; c++) {
                int many = Math.min(12, by.get(c).size());
                for (int i = 0; i < many && open(c, d, k); i++) {
                    sums[holderOf(by.get(c).get(i), d, h, k)] += 27720 / many;
                }
            }
        }
        return sums;
    }

    long account(int p, int from, int to, int k) {
        if (!isPerson(p) || !day(from, to, k) || !in(to - from, 0, 59)) {
            return NONE;
        }
        long sum = 0;
        for (int d = from; d <= to; d++) {
            sum += partsOfDay(d, k)[p];
        }
        return sum;
    }

    long bill(int n, int height, int d, int p) {
        if (!isThing(n) || !in(height, 0, 60) || !in(d, things.get(n).from, 3269) || !isPerson(p)) {
            return 0;
        }
        Thing t = things.get(n);
        if (heightOf(t, d, clock) == NONE) {
            return 0;
        }
        long more = 0;
        for (int e = d; e <= d + 330; e += 30) {
            more -= 30 * partsOfDay(e, clock)[p];
            t.entries.add(new Entry(d, height, clock));
            more += 30 * partsOfDay(e, clock)[p];
            t.entries.remove(t.entries.size() - 1);
        }
        return more;
    }

    int feed(int a, int b, int c, int d, int e) {
        if (tape.length() > 380) {
            return NONE;
        }
        for (int word : new int[] {a, b, c, d, e}) {
            for (int i = 3; i >= 0; i--) {
                tape += (char) ((word >>> (8 * i)) & 255);
            }
        }
        return tape.length();
    }

    int end(int n) {
        if (n < 0 || n > tape.length()) {
            return NONE;
        }
        tape = tape.substring(0, n);
        return n;
    }

    int tariff() {
        String text = tape;
        tape = "";
        try {
            rules = new PlainTariff(text).rules();
            faultKind = 0;
            faultPlace = NONE;
            return rules.size();
        } catch (Fault f) {
            faultKind = f.kind;
            faultPlace = f.place;
            return NONE;
        }
    }

    int fault(int what) {
        if (faultKind == null || !in(what, 0, 1)) {
            return NONE;
        }
        return what == 0 ? faultKind : faultPlace;
    }

    long given(long... names) {
        for (Rule r : rules) {
            if (r.ask == null || r.ask.applyAsLong(names) != 0) {
                return r.sum.applyAsLong(names);
            }
        }
        return 0;
    }

    int gives(int hour, int month, int height, int many, int kind, int thing) {
        for (int x : new int[] {hour, month, height, many, kind, thing}) {
            if (!in(x, -1000000, 1000000)) {
                return -2000000000;
            }
        }
        return (int) given(hour, month, 0, height, many, kind, thing, 0);
    }

    int stall(int p, int from, int to) {
        if (!isPerson(p) || !day(from, to) || to < from || stalls.size() == 10) {
            return NONE;
        }
        Stall s = new Stall();
        s.from = from;
        s.to = to;
        stalls.add(s);
        return stalls.size() - 1;
    }

    boolean has(Stall s, int d, int h, int cell) {
        return in(d, s.from, s.to) && s.places[h] != null && s.places[h] == cell;
    }

    boolean place(int n, int h, int cell) {
        if (!in(n, 0, stalls.size() - 1) || !in(h, 0, 11) || cell != NONE && !cell(cell)) {
            return false;
        }
        Stall s = stalls.get(n);
        for (int d = s.from; d <= s.to && cell != NONE; d++) {
            if (d >= clock && !open(cell, d, clock)) {
                return false;
            }
            for (Stall other : stalls) {
                if (other != s && has(other, d, h, cell)) {
                    return false;
                }
            }
        }
        s.places[h] = cell == NONE ? null : cell;
        return true;
    }

    int placeOf(int n, int h) {
        if (!in(n, 0, stalls.size() - 1) || !in(h, 0, 11) || stalls.get(n).places[h] == null) {
            return NONE;
        }
        return stalls.get(n).places[h];
    }

    /** The charge of a cell, to one person or to all together (NONE). */
    long charge(int cell, int d, int h, int s, int p) {
        long sum = 0;
        List<Integer> by = shadedBy(cell, d, h, clock);
        for (int n : by) {
            Thing t = things.get(n);
            long one = Math.max(0, given(h, month(d), d, heightOf(t, d, clock), by.size(), t.kind, n, s));
            sum += p == NONE || holderOf(n, d, h, clock) == p ? one : 0;
        }
        return sum;
    }

    long fees(int n, int d, int p) {
        if (!in(n, 0, stalls.size() - 1) || !in(d, stalls.get(n).from, stalls.get(n).to)
            || p != NONE && !isPerson(p)) {
            return -1000000000;
        }
        long sum = 0;
        for (int h = 0; h < 12; h++) {
            Integer cell = stalls.get(n).places[h];
            sum += cell == null ? 0 : charge(cell, d, h, n, p);
        }
        return sum;
    }

    static final class Way {
        List<Integer> cells = new ArrayList<>();
        int sunny;
        long charges;

        boolean before(Way other) {
            if (sunny != other.sunny) {
                return sunny < other.sunny;
            }
            if (charges != other.charges) {
                return charges < other.charges;
            }
            for (int i = 0; i < cells.size(); i++) {
                if (!cells.get(i).equals(other.cells.get(i))) {
                    return cells.get(i) < other.cells.get(i);
                }
            }
            return false;
        }
    }

    int walk(int d, int fromHour, int from, int toHour, int to) {
        if (!day(d) || !in(fromHour, 0, 11) || !in(toHour, fromHour, 11) || !cell(from) || !cell(to)) {
            return NONE;
        }
        Way[] best = new Way[wide * high];
        for (int h = fromHour; h <= toHour; h++) {
            Way[] next = new Way[wide * high];
            for (int c = 0; c < wide * high; c++) {
                boolean free = open(c, d, clock);
                for (Stall s : stalls) {
                    free &= !has(s, d, h, c);
                }
                for (int b = 0; free && b < wide * high; b++) {
                    boolean first = h == fromHour && b == from && c == from;
                    boolean beside = Math.abs(b % wide - c % wide) + Math.abs(b / wide - c / wide) <= 1;
                    if (first || h > fromHour && beside && best[b] != null) {
                        Way way = new Way();
                        if (!first) {
                            way.cells.addAll(best[b].cells);
                            way.sunny = best[b].sunny;
                            way.charges = best[b].charges;
                        }
                        way.cells.add(c);
                        way.sunny += shaded(c, d, h, clock) == 0 ? 1 : 0;
                        way.charges += charge(c, d, h, NONE, NONE);
                        if (next[c] == null || way.before(next[c])) {
                            next[c] = way;
                        }
                    }
                }
            }
            best = next;
        }
        if (best[to] == null) {
            return NONE;
        }
        walk = best[to].cells;
        walkCharges = best[to].charges;
        return best[to].sunny;
    }

    long walked(int i) {
        if (walk == null || !in(i, NONE, walk.size() - 1)) {
            return NONE;
        }
        return i == NONE ? walkCharges : walk.get(i);
    }

    /** The best tree's cell and how many places it serves; null without one. */
    int[] bestTree(int d, int height) {
        if (!day(d) || !in(height, 1, 60)) {
            return null;
        }
        int[] best = null;
        for (int c = 0; c < wide * high; c++) {
            boolean free = open(c, d, clock);
            int serves = 0;
            for (Stall s : stalls) {
                for (int h = 0; h < 12; h++) {
                    free &= !has(s, d, h, c);
                    if (in(d, s.from, s.to) && s.places[h] != null) {
                        int place = s.places[h];
                        if (open(place, d, clock) && shadedBy(place, d, h, clock).isEmpty()
                            && shadowFrom(c, 0, 0, d, h, height).contains(place)) {
                            serves++;
                        }
                    }
                }
            }
            if (free && (best == null || serves > best[1])) {
                best = new int[] {c, serves};
            }
        }
        return best;
    }

    int best(int d, int height) {
        int[] tree = bestTree(d, height);
        return tree == null ? NONE : tree[0];
    }

    int serves(int d, int height) {
        int[] tree = bestTree(d, height);
        return tree == null ? NONE : tree[1];
    }

    int about(int what) {
        if (!in(what, 0, 10)) {
            return NONE;
        }
        int standing = 0;
        for (Thing t : things) {
            standing += heightOf(t, clock, clock) == NONE ? 0 : 1;
        }
        return new int[] {clock, wide, high, persons.size(), things.size(), grants.size(), clouds.size(),
            stalls.size(), rules.size(), tape.length(), standing}[what];
    }

    /** The small language, its tokens taken one by one from the text. */
    static final class PlainTariff {
        private static final List<String> NAMES =
            List.of("hour", "month", "day", "height", "many", "kind", "thing", "stall");
        private static final BigInteger MOST = BigInteger.valueOf(1000000000);

        private final String text;
        private int start;
        private String token;
        /** What is open around the token that is looked at. */
        private int open;

        PlainTariff(String text) {
            this.text = text;
            take(0);
        }

        private static boolean letter(char c) {
            return c >= 'a' && c <= 'z' || c >= 'A' && c <= 'Z';
        }

        private static boolean digit(char c) {
            return c >= '0' && c <= '9';
        }

        private void take(int from) {
            int i = from;
            while (i < text.length() && (text.charAt(i) == 32 || text.charAt(i) == 10)) {
                i++;
            }
            start = i;
            if (i == text.length()) {
                token = "";
                return;
            }
            int j = i + 1;
            if (letter(text.charAt(i))) {
                while (j < text.length() && letter(text.charAt(j))) {
                    j++;
                }
            } else if (digit(text.charAt(i))) {
                while (j < text.length() && digit(text.charAt(j))) {
                    j++;
                }
            } else if (text.startsWith("<=", i) || text.startsWith(">=", i)) {
                j++;
            }
            token = text.substring(i, j);
        }

        private boolean is(String... some) {
            return List.of(some).contains(token);
        }

        private String next() {
            String passed = token;
            take(start + token.length());
            return passed;
        }

        private void want(String wanted) {
            if (!is(wanted)) {
                throw new Fault(1, start);
            }
            next();
        }

        private void opens() {
            if (open == 10) {
                throw new Fault(3, start);
            }
            open++;
            next();
        }

        List<Rule> rules() {
            List<Rule> all = new ArrayList<>();
            while (!token.isEmpty()) {
                Rule r = new Rule();
                if (is("when", "give") && all.size() == 20) {
                    throw new Fault(4, start);
                }
                if (is("when")) {
                    next();
                    r.ask = either();
                }
                want("give");
                r.sum = sum();
                want(";");
                all.add(r);
            }
            return all;
        }

        private ToLongFunction<long[]> either() {
            ToLongFunction<long[]> left = both();
            while (is("or")) {
                next();
                ToLongFunction<long[]> a = left;
                ToLongFunction<long[]> b = both();
                left = names -> a.applyAsLong(names) != 0 || b.applyAsLong(names) != 0 ? 1 : 0;
            }
            return left;
        }

        private ToLongFunction<long[]> both() {
            ToLongFunction<long[]> left = ask();
            while (is("and")) {
                next();
                ToLongFunction<long[]> a = left;
                ToLongFunction<long[]> b = ask();
                left = names -> a.applyAsLong(names) != 0 && b.applyAsLong(names) != 0 ? 1 : 0;
            }
            return left;
        }

        private ToLongFunction<long[]> ask() {
            if (is("not")) {
                opens();
                ToLongFunction<long[]> a = ask();
                open--;
                return names -> a.applyAsLong(names) == 0 ? 1 : 0;
            }
            if (is("[")) {
                opens();
                ToLongFunction<long[]> a = either();
                want("]");
                open--;
                return a;
            }
            ToLongFunction<long[]> a = sum();
            if (!is("<", "<=", ">", ">=", "=", "#")) {
                throw new Fault(1, start);
            }
            String sign = next();
            ToLongFunction<long[]> b = sum();
            return names -> {
                int order = Long.compare(a.applyAsLong(names), b.applyAsLong(names));
                String is = order < 0 ? "< <= #" : order > 0 ? "> >= #" : "= <= >=";
                return List.of(is.split(" ")).contains(sign) ? 1 : 0;
            };
        }

        private static long step(String sign, long a, long b) {
            BigInteger x = BigInteger.valueOf(a);
            BigInteger y = BigInteger.valueOf(b);
            BigInteger z = sign.equals("+") ? x.add(y)
                : sign.equals("-") ? x.subtract(y)
                : sign.equals("*") ? x.multiply(y)
                : b == 0 ? BigInteger.ZERO : x.divide(y);
            return z.min(MOST).max(MOST.negate()).longValue();
        }

        private ToLongFunction<long[]> sum() {
            ToLongFunction<long[]> left = product();
            while (is("+", "-")) {
                String sign = next();
                ToLongFunction<long[]> a = left;
                ToLongFunction<long[]> b = product();
                left = names -> step(sign, a.applyAsLong(names), b.applyAsLong(names));
            }
            return left;
        }

        private ToLongFunction<long[]> product() {
            ToLongFunction<long[]> left = one();
            while (is("*", "/")) {
                String sign = next();
                ToLongFunction<long[]> a = left;
                ToLongFunction<long[]> b = one();
                left = names -> step(sign, a.applyAsLong(names), b.applyAsLong(names));
            }
            return left;
        }

        private ToLongFunction<long[]> one() {
            if (!token.isEmpty() && digit(token.charAt(0))) {
                BigInteger value = new BigInteger(token);
                if (value.compareTo(BigInteger.valueOf(100000)) > 0) {
                    throw new Fault(2, start);
                }
                next();
                return names -> value.longValue();
            }
            if (NAMES.contains(token)) {
                int i = NAMES.indexOf(next());
                return names -> names[i];
            }
            if (is("(")) {
                opens();
                ToLongFunction<long[]> a = sum();
                want(")");
                open--;
                return a;
            }
            if (is("-")) {
                opens();
                ToLongFunction<long[]> a = one();
                open--;
                return names -> -a.applyAsLong(names);
            }
            if (is("min", "max")) {
                boolean least = next().equals("min");
                if (!is("(")) {
                    throw new Fault(1, start);
                }
                opens();
                ToLongFunction<long[]> a = sum();
                want(",");
                ToLongFunction<long[]> b = sum();
                want(")");
                open--;
                return names -> least ? Math.min(a.applyAsLong(names), b.applyAsLong(names))
                    : Math.max(a.applyAsLong(names), b.applyAsLong(names));
            }
            throw new Fault(1, start);
        }
    }
}
