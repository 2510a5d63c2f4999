/** Promises 11 to 14: machine, power, share, best. */
public final class MachinesTest {
    public static void main(String[] args) {
        machineBad();
        machineAsItRuns();
        power();
        shareBad();
        shareEdges();
        shareTies();
        shareByLift();
        shareAgainstAll();
        bestBad();
        bestTies();
        bestAgainstAll();
        Due.end();
    }

    private static void machineBad() {
        ColdHouse x = new ColdHouse();
        for (int m : new int[] {-1, 4, 5, 6, 7, Integer.MIN_VALUE, Integer.MAX_VALUE}) {
            for (int what = -1; what <= 13; what++) {
                Due.is("machine(" + m + ", " + what + ")", x.machine(m, what), ColdHouse.BAD);
            }
        }
        for (int what : new int[] {-1, 13, Integer.MIN_VALUE, Integer.MAX_VALUE}) {
            Due.is("machine(0, " + what + ")", x.machine(0, what), ColdHouse.BAD);
        }
    }

    private static void machineAsItRuns() {
        ColdHouse x = new ColdHouse();
        x.tell(0, 150);
        x.tick(30);
        Due.machines(x, "ON", 6, 2, 2, 2, 2);
        Due.machines(x, "HOURS", 7, 27, 24, 21, 18);
        Due.machines(x, "STARTED", 8, 1, 1, 1, 1);
        Due.machines(x, "LOCKED", 9, 0, 0, 0, 0);
        Due.machines(x, "MAY START", 10, 0, 0, 0, 0);
        Due.machines(x, "makes", 11, x.share(15, 150, 0), x.share(15, 150, 1), x.share(15, 150, 2), x.share(15, 150, 3));
        Due.machines(x, "LIST", 12, -4, -4, -4, -4);
        x.tell(0, 480);
        Due.machines(x, "MOST", 11, 40, 40, 20, 60);
        x.tell(0, 3);
        Due.machines(x, "LEAST", 11, 10, 10, 5, 20);
        x.dip();
        Due.machines(x, "LIST", 12, 1, 2, 3, 0);
        Due.machines(x, "OFF", 11, 0, 0, 0, 0);
        x.tick(1);
        Due.machines(x, "STARTING", 6, 0, 0, 0, 1);
        Due.machines(x, "STARTING makes nothing", 11, 0, 0, 0, 0);
    }

    private static void power() {
        ColdHouse x = Due.laid("c1,80,99,99,99,1;c1,80,0,0,0,1;c1,80,7,1,0,1;c1,80,7,0,1,1;");
        Due.is("greatest", x.power(0, 99, 45), 99 + (100 * 99 * 99 + 99 * 99 * 99) * 105 / 10000);
        Due.is("no load", x.power(0, 0, 45), 99);
        Due.is("nothing", x.power(1, 99, 45), 0);
        Due.is("cut", x.power(2, 1, 39), 7);
        Due.is("not cut", x.power(2, 1, 40), 8);
        Due.is("curve cut", x.power(3, 9, 45), 7);
        Due.is("curve", x.power(3, 10, 40), 8);
        Due.is("below LEAST, above MOST", x.power(2, 99, 0), 7 + 59);
        ColdHouse y = Due.laid("c1,80,0,1,60,1;");
        Due.is("cut once, of both together", y.power(0, 1, 3), 160 * 63 / 10000);
        for (int m : new int[] {-2, -1, 4, 6, Integer.MAX_VALUE, Integer.MIN_VALUE}) {
            Due.is("power(" + m + ", 0, 0)", x.power(m, 0, 0), ColdHouse.BAD);
        }
        for (int load : new int[] {-1, 100, Integer.MAX_VALUE, Integer.MIN_VALUE}) {
            Due.is("power(0, " + load + ", 0)", x.power(0, load, 0), ColdHouse.BAD);
        }
        for (int lift : new int[] {-1, 46, Integer.MAX_VALUE, Integer.MIN_VALUE}) {
            Due.is("power(0, 0, " + lift + ")", x.power(0, 0, lift), ColdHouse.BAD);
        }
    }

    private static void shareBad() {
        ColdHouse x = new ColdHouse();
        for (int set : new int[] {-1, 16, 31, 64, Integer.MAX_VALUE, Integer.MIN_VALUE}) {
            Due.is("share(" + set + ", 30, 0)", x.share(set, 30, 0), ColdHouse.BAD);
        }
        for (int load : new int[] {-1, 481, Integer.MAX_VALUE, Integer.MIN_VALUE}) {
            Due.is("share(1, " + load + ", 0)", x.share(1, load, 0), ColdHouse.BAD);
        }
        for (int m : new int[] {-2, 4, 6, Integer.MAX_VALUE, Integer.MIN_VALUE}) {
            Due.is("share(1, 30, " + m + ")", x.share(1, 30, m), ColdHouse.BAD);
            Due.is("BAD is ahead of NONE", x.share(1, 300, m), ColdHouse.BAD);
        }
    }

    private static void shareEdges() {
        ColdHouse x = new ColdHouse();
        Due.is("the empty one", x.share(0, 0, -1), 0);
        Due.is("the empty one", x.share(0, 0, 3), 0);
        Due.is("the empty one can not", x.share(0, 1, -1), ColdHouse.NONE);
        Due.is("below LEASTS", x.share(5, 14, -1), ColdHouse.NONE);
        Due.is("below LEASTS", x.share(5, 14, 1), ColdHouse.NONE);
        Due.is("LEASTS", x.share(5, 15, 0) * 100 + x.share(5, 15, 2), 1005);
        Due.is("MOSTS", x.share(5, 60, 0) * 100 + x.share(5, 60, 2), 4020);
        Due.is("not of it", x.share(5, 60, 1) + x.share(5, 60, 3), 0);
        Due.is("above MOSTS", x.share(5, 61, 0), ColdHouse.NONE);
        Due.is("POWER", x.share(5, 60, -1), x.power(0, 40, 18) + x.power(2, 20, 18));
        x.lock(0, 1);
        Due.is("LOCKED or not", x.share(5, 60, 0), 40);
        ColdHouse y = Due.laid("c1,80,1,1,1,1;".repeat(6));
        Due.is("480", y.share(63, 480, 5), 80);
        Due.is("6", y.share(63, 6, 5), 1);
        Due.is("5", y.share(63, 5, 5), ColdHouse.NONE);
    }

    private static void shareTies() {
        ColdHouse x = Due.laid("c5,30,1,10,0,1;c2,10,1,10,0,1;c3,20,1,10,0,1;h50,1,0;");
        x.tell(2, 44);
        x.tell(3, 4);
        Due.is("the same POWER whatever the share", x.share(7, 40, -1), 3 + 40 * 10);
        Due.is("the lowest has the least", x.share(7, 40, 0), 10);
        Due.is("then the next", x.share(7, 40, 1), 10);
        Due.is("the rest", x.share(7, 40, 2), 20);
        Due.is("the lowest has the least", x.share(7, 20, 0), 5);
        Due.is("then the next", x.share(7, 20, 1), 2);
        Due.is("the rest", x.share(7, 20, 2), 13);
        Due.is("without the lowest", x.share(6, 25, 1), 5);
    }

    private static void shareByLift() {
        ColdHouse x = new ColdHouse();
        int[][] weather = {{25, 7}, {45, 4}, {45, 7}, {0, 14}, {9, 9}, {10, 9}};
        for (int[] w : weather) {
            x.tell(2, w[0]);
            x.tell(3, w[1]);
            int lift = Math.max(0, w[0] - w[1]);
            Due.is("LIFT", x.now(5), lift);
            Due.is("share by LIFT " + lift, x.share(2, 33, -1), x.power(1, 33, lift));
            Due.is("best by LIFT " + lift, x.best(18, 1), leastOf18(x, lift));
        }
    }

    /** Of 18, which any one of the first three makes, or the third with the first or the second. */
    private static int leastOf18(ColdHouse x, int lift) {
        int least = Math.min(Math.min(x.power(0, 18, lift), x.power(1, 18, lift)), x.power(2, 18, lift));
        for (int load = 5; load <= 8; load++) {
            int with = Math.min(x.power(0, 18 - load, lift), x.power(1, 18 - load, lift));
            least = Math.min(least, x.power(2, load, lift) + with);
        }
        return least;
    }

    /** LEAST, MOST, BASE, SLOPE, CURVE, FLOW of each MACHINE of a text of MACHINES alone. */
    private static int[][] machinesOf(String text) {
        String[] items = text.split(";");
        int[][] machines = new int[items.length][];
        for (int m = 0; m < items.length; m++) {
            machines[m] = java.util.Arrays.stream(items[m].substring(1).split(",")).mapToInt(Integer::parseInt).toArray();
        }
        return machines;
    }

    private static int powerOf(int[] machine, int load, int lift) {
        return machine[2] + (100 * machine[3] * load + machine[4] * load * load) * (60 + lift) / 10000;
    }

    /** Every share there is, the lowest MACHINE's least load first; the first of the least POWER stays. */
    private static void tryAll(int[][] machines, int set, int m, int[] parts, int left, int power, int[] found) {
        if (m == machines.length) {
            if (left == 0 && (found[6] < 0 || power < found[6])) {
                System.arraycopy(parts, 0, found, 0, 6);
                found[6] = power;
            }
            return;
        }
        if ((set >> m & 1) == 0) {
            tryAll(machines, set, m + 1, parts, left, power, found);
            return;
        }
        boolean last = set >> m == 1;
        for (int load = last ? Math.max(left, machines[m][0]) : machines[m][0]; load <= machines[m][1] && load <= left; load++) {
            parts[m] = load;
            tryAll(machines, set, m + 1, parts, left - load, power + powerOf(machines[m], load, 18), found);
        }
        parts[m] = 0;
    }

    /** The loads of the BEST SHARE by LIFT 18, then its POWER: -1 if there is none. */
    private static int[] firstShare(int[][] machines, int set, int load) {
        int[] found = {0, 0, 0, 0, 0, 0, -1};
        tryAll(machines, set, 0, new int[6], load, 0, found);
        return found;
    }

    private static final String[] PLANTS = {
        "c10,40,20,9,30,12;c10,40,25,8,20,12;c5,20,8,12,40,6;c20,60,40,7,15,20;",
        "c1,12,3,1,0,1;c1,12,3,1,0,1;c2,9,4,1,1,1;c1,7,2,2,0,1;c3,8,0,0,9,1;c1,5,9,0,0,1;",
        "c1,30,0,0,1,1;c1,30,0,0,1,1;c1,30,0,0,1,1;",
        "c5,5,1,1,1,1;c7,9,1,99,99,1;c1,40,30,50,2,1;",
        "c1,10,0,3,5,1;c1,10,0,4,4,1;c1,10,0,5,3,1;c1,10,0,6,2,1;c1,10,0,7,1,1;",
        "c40,80,99,99,99,40;c1,80,0,99,0,40;c1,3,0,0,0,40;"
    };

    private static void shareAgainstAll() {
        for (String text : PLANTS) {
            int[][] machines = machinesOf(text);
            for (int set = 0; set < 1 << machines.length; set++) {
                ColdHouse x = Due.laid(text);
                for (int load = set * 7 % 11; load <= 200; load += 13) {
                    int[] found = firstShare(machines, set, load);
                    String call = text + " share(" + set + ", " + load + ", ";
                    Due.is(call + "-1)", x.share(set, load, -1), found[6] < 0 ? ColdHouse.NONE : found[6]);
                    for (int m = 0; m < machines.length; m++) {
                        Due.is(call + m + ")", x.share(set, load, m), found[6] < 0 ? ColdHouse.NONE : found[m]);
                    }
                }
            }
        }
    }

    private static void bestBad() {
        ColdHouse x = new ColdHouse();
        for (int load : new int[] {-1, 481, Integer.MAX_VALUE, Integer.MIN_VALUE}) {
            Due.is("best(" + load + ", 0)", x.best(load, 0), ColdHouse.BAD);
        }
        for (int what : new int[] {-1, 2, Integer.MAX_VALUE, Integer.MIN_VALUE}) {
            Due.is("best(30, " + what + ")", x.best(30, what), ColdHouse.BAD);
            Due.is("BAD is ahead of NONE", x.best(480, what), ColdHouse.BAD);
        }
        Due.is("below every LEAST", x.best(4, 0), ColdHouse.NONE);
        Due.is("below every LEAST", x.best(4, 1), ColdHouse.NONE);
        Due.is("the empty one", x.best(0, 0) + x.best(0, 1), 0);
        for (int m = 0; m < 4; m++) {
            x.lock(m, 1);
        }
        Due.is("all LOCKED", x.best(10, 0), ColdHouse.NONE);
        Due.is("all LOCKED, the empty one", x.best(0, 0), 0);
        ColdHouse y = Due.laid("c1,80,99,99,99,1;".repeat(6));
        y.tell(2, 45);
        y.tell(3, 4);
        Due.is("all at most", y.best(480, 0), 63);
        Due.is("all at most", y.best(480, 1), 6 * y.power(0, 80, 41));
    }

    private static void bestTies() {
        ColdHouse x = Due.laid("c1,10,0,0,0,1;c1,20,0,0,0,1;c1,20,0,0,0,1;c1,10,0,0,0,1;c1,30,0,0,0,1;");
        Due.is("one of the fewest, the least bits", x.best(10, 0), 1);
        Due.is("one that can", x.best(11, 0), 2);
        Due.is("the only one", x.best(21, 0), 16);
        Due.is("two", x.best(31, 0), 6);
        Due.is("two", x.best(41, 0), 18);
        x.lock(0, 1);
        Due.is("not the LOCKED one", x.best(10, 0), 2);
        x.lock(4, 1);
        Due.is("not the LOCKED ones", x.best(21, 0), 6);
        x.lock(0, 0);
        Due.is("as it was", x.best(10, 0), 1);
    }

    /** The BEST SET without the LOCKED ones by LIFT 18, then its POWER. */
    private static int[] bestOfAll(int[][] machines, int locked, int load) {
        int[] best = {ColdHouse.NONE, ColdHouse.NONE};
        for (int set = 0; set < 1 << machines.length; set++) {
            int power = (set & locked) == 0 ? firstShare(machines, set, load)[6] : -1;
            if (power >= 0 && (best[0] < 0 || power < best[1]
                || power == best[1] && Integer.bitCount(set) < Integer.bitCount(best[0]))) {
                best[0] = set;
                best[1] = power;
            }
        }
        return best;
    }

    private static void bestAgainstAll() {
        for (String text : PLANTS) {
            ColdHouse x = Due.laid(text);
            int locked = 0;
            for (int load = 0; load <= 180; load += load < 40 ? 1 : 17) {
                if (load == 20) {
                    x.lock(1, 1);
                    locked = 2;
                }
                int[] want = bestOfAll(machinesOf(text), locked, load);
                Due.is(text + " best(" + load + ", 0)", x.best(load, 0), want[0]);
                Due.is(text + " best(" + load + ", 1)", x.best(load, 1), want[1]);
            }
        }
    }
}
