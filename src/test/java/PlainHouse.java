import java.util.ArrayDeque;
import java.util.ArrayList;
import java.util.Deque;
import java.util.List;
import java.util.regex.Matcher;
import java.util.regex.Pattern;

/**
 * The document once more, word by word and without care for time or room: whole histories are kept,
 * every SET is tried. RandomRunsTest compares ColdHouse with it.
 */
final class PlainHouse {
    private static final int BAD = -1, NO = -2, FULL = -3, NONE = -4;
    private static final Pattern MACHINE = Pattern.compile("c(\\d\\d?),(\\d\\d?),(\\d\\d?),(\\d\\d?),(\\d\\d?),(\\d\\d?);");
    private static final Pattern RULES = Pattern.compile("r(\\d\\d?),(\\d\\d?),(\\d\\d?),(\\d\\d?);");
    private static final Pattern STAGES = Pattern.compile("h(\\d\\d?),(\\d\\d?),(\\d\\d?);");

    private static final class Machine {
        int[] spec;
        String is = "OFF";
        int hours;
        boolean locked;
        List<Integer> started = new ArrayList<>();
        List<Integer> stopped = new ArrayList<>();

        Machine copy() {
            Machine c = new Machine();
            c.spec = spec;
            c.is = is;
            c.hours = hours;
            c.locked = locked;
            c.started = new ArrayList<>(started);
            c.stopped = new ArrayList<>(stopped);
            return c;
        }

        boolean running() {
            return !is.equals("OFF");
        }

        boolean on() {
            return is.equals("ON");
        }

        int last(List<Integer> ticks) {
            return ticks.get(ticks.size() - 1);
        }
    }

    private static final class House {
        List<Machine> machines = new ArrayList<>();
        List<Integer> list = new ArrayList<>();
        List<Integer> anyStarted = new ArrayList<>();
        int load, water, outside = 25, cold = 7, tick, ups, downs, energy;

        House copy() {
            House c = new House();
            for (Machine m : machines) {
                c.machines.add(m.copy());
            }
            c.list = new ArrayList<>(list);
            c.anyStarted = new ArrayList<>(anyStarted);
            c.load = load;
            c.water = water;
            c.outside = outside;
            c.cold = cold;
            c.tick = tick;
            c.ups = ups;
            c.downs = downs;
            c.energy = energy;
            return c;
        }
    }

    private final StringBuilder text = new StringBuilder();
    private House house = new House();
    private int run, rest, starts, gap, up, down, patience;
    private final Deque<House> past = new ArrayDeque<>();

    PlainHouse() {
        text.append("c10,40,20,9,30,12;c10,40,25,8,20,12;c5,20,8,12,40,6;c20,60,40,7,15,20;r5,3,3,1;h90,60,2;");
        lay();
        text.setLength(0);
    }

    int write(int letter) {
        if (letter < 32 || letter > 126) {
            return BAD;
        }
        if (text.length() == 200) {
            return FULL;
        }
        return text.append((char) letter).length();
    }

    int wipe() {
        int n = text.length();
        text.setLength(0);
        return n;
    }

    private static int[] numbers(Pattern kind, String item) {
        Matcher found = kind.matcher(item);
        if (!found.matches()) {
            return null;
        }
        int[] n = new int[found.groupCount()];
        for (int k = 0; k < n.length; k++) {
            n[k] = Integer.parseInt(found.group(k + 1));
        }
        return n;
    }

    private static boolean in(int v, int least, int most) {
        return least <= v && v <= most;
    }

    private static boolean isSo(String item) {
        int[] c = numbers(MACHINE, item);
        int[] r = numbers(RULES, item);
        int[] h = numbers(STAGES, item);
        return c != null && in(c[0], 1, 40) && in(c[1], c[0], 80) && in(c[5], 1, 40)
            || r != null && in(r[0], 0, 30) && in(r[1], 0, 30) && in(r[2], 1, 9) && in(r[3], 0, 9)
            || h != null && in(h[0], 50, 99) && in(h[1], 1, 99) && in(h[2], 0, 9);
    }

    private List<String> items() {
        List<String> items = new ArrayList<>();
        int from = 0;
        while (from < text.length()) {
            int semicolon = text.indexOf(";", from);
            int end = semicolon < 0 ? text.length() : semicolon + 1;
            items.add(text.substring(from, end));
            from = end;
        }
        return items;
    }

    int fault() {
        int place = 0;
        int machines = 0;
        for (String item : items()) {
            if (!isSo(item) || item.startsWith("c") && ++machines == 7) {
                return place;
            }
            place += item.length();
        }
        return NONE;
    }

    int lay() {
        if (fault() != NONE || items().stream().noneMatch(item -> item.startsWith("c"))) {
            return NO;
        }
        house = new House();
        past.clear();
        run = 5;
        rest = 3;
        starts = 3;
        gap = 1;
        up = 90;
        down = 60;
        patience = 2;
        for (String item : items()) {
            int[] n = numbers(MACHINE, item);
            if (n != null) {
                Machine m = new Machine();
                m.spec = n;
                house.machines.add(m);
            }
            n = numbers(RULES, item);
            if (n != null) {
                run = n[0];
                rest = n[1];
                starts = n[2];
                gap = n[3];
            }
            n = numbers(STAGES, item);
            if (n != null) {
                up = n[0];
                down = n[1];
                patience = n[2];
            }
        }
        return house.machines.size();
    }

    private void change() {
        past.push(house.copy());
        while (past.size() > 4) {
            past.removeLast();
        }
    }

    int tell(int what, int v) {
        boolean good = what == 0 && in(v, 0, 480) || what == 1 && in(v, 0, 240) || what == 2 && in(v, 0, 45) || what == 3 && in(v, 4, 14);
        if (!good) {
            return BAD;
        }
        int was = count(10 + what);
        if (was == v) {
            return NO;
        }
        change();
        if (what == 0) {
            house.load = v;
        } else if (what == 1) {
            house.water = v;
        } else if (what == 2) {
            house.outside = v;
        } else {
            house.cold = v;
        }
        return was;
    }

    private boolean isMachine(int m) {
        return in(m, 0, house.machines.size() - 1);
    }

    int lock(int m, int is) {
        if (!isMachine(m) || !in(is, 0, 1)) {
            return BAD;
        }
        if (house.machines.get(m).locked == (is == 1)) {
            return NO;
        }
        change();
        Machine it = house.machines.get(m);
        it.locked = is == 1;
        if (is == 1) {
            if (it.running()) {
                it.stopped.add(house.tick);
            }
            it.is = "OFF";
            house.list.remove(Integer.valueOf(m));
        }
        return count(3);
    }

    int dip() {
        change();
        List<Integer> falling = new ArrayList<>();
        for (int m = 0; m < house.machines.size(); m++) {
            Machine it = house.machines.get(m);
            if (it.running()) {
                it.is = "OFF";
                it.stopped.add(house.tick);
                falling.add(m);
            }
        }
        falling.sort((a, b) -> house.machines.get(b).spec[1] - house.machines.get(a).spec[1]);
        house.list.addAll(falling);
        house.ups = 0;
        house.downs = 0;
        return falling.size();
    }

    int tick(int n) {
        if (!in(n, 1, 60)) {
            return BAD;
        }
        if (house.tick + n > 9999) {
            return NO;
        }
        change();
        int before = house.anyStarted.size();
        for (int k = 0; k < n; k++) {
            pass(house);
        }
        return house.anyStarted.size() - before;
    }

    int undo() {
        if (past.isEmpty()) {
            return NO;
        }
        house = past.pop();
        return past.size();
    }

    private void start(House h, Machine it) {
        it.is = "STARTING";
        it.started.add(h.tick);
        h.anyStarted.add(h.tick);
    }

    private void pass(House h) {
        h.energy += powerNow(h);
        for (Machine it : h.machines) {
            if (it.running()) {
                it.hours++;
            }
        }
        h.tick++;
        for (Machine it : h.machines) {
            if (it.is.equals("STARTING") && h.tick - it.last(it.started) >= 3) {
                it.is = "ON";
            }
        }
        int mosts = 0;
        for (Machine it : h.machines) {
            mosts += it.running() ? it.spec[1] : 0;
        }
        Machine goes = mayStop(h);
        if (!h.list.isEmpty()) {
            if (gapOver(h, h.tick)) {
                start(h, h.machines.get(h.list.remove(0)));
            }
        } else if (100 * h.load > up * mosts) {
            h.ups++;
            h.downs = 0;
            Machine comes = null;
            for (Machine it : h.machines) {
                if (mayStart(h, it, h.tick) && (comes == null || it.hours < comes.hours)) {
                    comes = it;
                }
            }
            if (h.ups > patience && comes != null) {
                start(h, comes);
                h.ups = 0;
            }
        } else if (goes != null && 100 * h.load < down * (mosts - goes.spec[1])) {
            h.downs++;
            h.ups = 0;
            if (h.downs > patience) {
                goes.is = "OFF";
                goes.stopped.add(h.tick);
                h.downs = 0;
            }
        } else {
            h.ups = 0;
            h.downs = 0;
        }
    }

    private boolean gapOver(House h, int tick) {
        return h.anyStarted.isEmpty() || tick - h.anyStarted.get(h.anyStarted.size() - 1) > gap;
    }

    private boolean mayStart(House h, Machine it, int tick) {
        boolean rested = it.stopped.isEmpty() || tick - it.last(it.stopped) > rest;
        long lately = it.started.stream().filter(t -> in(t, tick - 59, tick)).count();
        return !it.running() && !it.locked && rested && lately < starts && gapOver(h, tick);
    }

    private Machine mayStop(House h) {
        Machine found = null;
        for (int m = h.machines.size() - 1; m >= 0; m--) {
            Machine it = h.machines.get(m);
            if (it.on() && h.tick - it.last(it.started) > run && (found == null || it.hours > found.hours)) {
                found = it;
            }
        }
        return found;
    }

    int machine(int m, int what) {
        if (!isMachine(m) || !in(what, 0, 12)) {
            return BAD;
        }
        Machine it = house.machines.get(m);
        if (what < 6) {
            return it.spec[what];
        }
        return switch (what) {
            case 6 -> it.on() ? 2 : it.running() ? 1 : 0;
            case 7 -> it.hours;
            case 8 -> it.started.size();
            case 9 -> it.locked ? 1 : 0;
            case 10 -> mayStart(house, it, house.tick + 1) ? 1 : 0;
            case 11 -> it.on() ? making(house)[m] : 0;
            default -> house.list.contains(m) ? house.list.indexOf(m) : NONE;
        };
    }

    private static int powerOf(Machine it, int load, int lift) {
        return it.spec[2] + (100 * it.spec[3] * load + it.spec[4] * load * load) * (60 + lift) / 10000;
    }

    int power(int m, int load, int lift) {
        if (!isMachine(m) || !in(load, 0, 99) || !in(lift, 0, 45)) {
            return BAD;
        }
        return powerOf(house.machines.get(m), load, lift);
    }

    private int lift(House h) {
        return Math.max(0, h.outside - h.cold);
    }

    /** What each MACHINE makes by the BEST SHARE, then POWER; null if the SET can not. */
    private int[] bestShare(House h, int set, int load) {
        int n = h.machines.size();
        int lift = lift(h);
        int[][] least = new int[n + 1][load + 1];
        for (int l = 1; l <= load; l++) {
            least[n][l] = -1;
        }
        for (int m = n - 1; m >= 0; m--) {
            Machine it = h.machines.get(m);
            for (int l = 0; l <= load; l++) {
                least[m][l] = -1;
                if ((set >> m & 1) == 0) {
                    least[m][l] = least[m + 1][l];
                    continue;
                }
                for (int x = it.spec[0]; x <= it.spec[1] && x <= l; x++) {
                    int behind = least[m + 1][l - x];
                    int all = behind + powerOf(it, x, lift);
                    if (behind >= 0 && (least[m][l] < 0 || all < least[m][l])) {
                        least[m][l] = all;
                    }
                }
            }
        }
        if (least[0][load] < 0) {
            return null;
        }
        int[] found = new int[n + 1];
        found[n] = least[0][load];
        int left = load;
        for (int m = 0; m < n; m++) {
            Machine it = h.machines.get(m);
            for (int x = it.spec[0]; (set >> m & 1) == 1 && x <= it.spec[1] && x <= left; x++) {
                int behind = least[m + 1][left - x];
                if (behind >= 0 && behind + powerOf(it, x, lift) == least[m][left]) {
                    found[m] = x;
                    left -= x;
                    break;
                }
            }
        }
        return found;
    }

    int share(int set, int load, int m) {
        int n = house.machines.size();
        if (!in(set, 0, (1 << n) - 1) || !in(load, 0, 480) || !in(m, -1, n - 1)) {
            return BAD;
        }
        int[] found = bestShare(house, set, load);
        return found == null ? NONE : found[m == -1 ? n : m];
    }

    int best(int load, int what) {
        if (!in(load, 0, 480) || !in(what, 0, 1)) {
            return BAD;
        }
        int n = house.machines.size();
        int locked = 0;
        for (int m = 0; m < n; m++) {
            locked |= house.machines.get(m).locked ? 1 << m : 0;
        }
        int bestSet = NONE;
        int bestPower = NONE;
        for (int set = 0; set < 1 << n; set++) {
            int[] found = (set & locked) == 0 ? bestShare(house, set, load) : null;
            if (found != null && (bestSet < 0 || found[n] < bestPower
                || found[n] == bestPower && Integer.bitCount(set) < Integer.bitCount(bestSet))) {
                bestSet = set;
                bestPower = found[n];
            }
        }
        return what == 0 ? bestSet : bestPower;
    }

    /** What each MACHINE makes now. */
    private int[] making(House h) {
        int n = h.machines.size();
        int leasts = 0;
        int mosts = 0;
        int on = 0;
        int[] made = new int[n + 1];
        for (int m = 0; m < n; m++) {
            Machine it = h.machines.get(m);
            if (it.on()) {
                on |= 1 << m;
                leasts += it.spec[0];
                mosts += it.spec[1];
            }
        }
        if (in(h.load, leasts, mosts)) {
            return bestShare(h, on, h.load);
        }
        for (int m = 0; m < n; m++) {
            Machine it = h.machines.get(m);
            if (it.on()) {
                made[m] = h.load < leasts ? it.spec[0] : it.spec[1];
            }
        }
        return made;
    }

    private int made(House h) {
        int[] made = making(h);
        int sum = 0;
        for (int m = 0; m < h.machines.size(); m++) {
            sum += made[m];
        }
        return sum;
    }

    private int powerNow(House h) {
        int[] made = making(h);
        int sum = 0;
        for (int m = 0; m < h.machines.size(); m++) {
            Machine it = h.machines.get(m);
            sum += it.on() ? powerOf(it, made[m], lift(h)) : 0;
        }
        return sum;
    }

    int now(int what) {
        int made = made(house);
        int flow = 0;
        for (Machine it : house.machines) {
            flow += it.running() ? it.spec[5] : 0;
        }
        int power = powerNow(house);
        return switch (what) {
            case 0 -> made;
            case 1 -> Math.max(0, house.load - made);
            case 2 -> Math.max(0, made - house.load);
            case 3 -> power;
            case 4 -> Math.max(0, flow - house.water);
            case 5 -> lift(house);
            case 6 -> made != house.load || best(house.load, 0) == NONE ? NONE : power - best(house.load, 1);
            default -> BAD;
        };
    }

    int ahead(int n, int what) {
        if (!in(n, 1, 60) || !in(what, 0, 3)) {
            return BAD;
        }
        House h = house.copy();
        int shorts = 0;
        for (int k = 0; k < n; k++) {
            pass(h);
            shorts += h.load > made(h) ? 1 : 0;
        }
        int running = (int) h.machines.stream().filter(Machine::running).count();
        return switch (what) {
            case 0 -> running;
            case 1 -> h.anyStarted.size() - house.anyStarted.size();
            case 2 -> h.energy - house.energy;
            default -> shorts;
        };
    }

    int count(int what) {
        return switch (what) {
            case 0 -> house.machines.size();
            case 1 -> (int) house.machines.stream().filter(Machine::running).count();
            case 2 -> (int) house.machines.stream().filter(Machine::on).count();
            case 3 -> (int) house.machines.stream().filter(m -> m.locked).count();
            case 4 -> house.list.size();
            case 5 -> house.tick;
            case 6 -> house.ups;
            case 7 -> house.downs;
            case 8 -> house.anyStarted.size();
            case 9 -> house.energy;
            case 10 -> house.load;
            case 11 -> house.water;
            case 12 -> house.outside;
            case 13 -> house.cold;
            case 14 -> past.size();
            case 15 -> text.length();
            default -> BAD;
        };
    }
}
