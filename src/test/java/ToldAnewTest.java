/** Promises 6 to 10: tell, lock, dip, tick, undo. */
public final class ToldAnewTest {
    private static final String TWO = "c1,10,5,10,0,3;c1,10,5,10,0,4;";
    private static final String QUICK = "r0,0,9,0;h50,1,0;";

    public static void main(String[] args) {
        tell();
        lock();
        lockedOnes();
        dip();
        dipOrder();
        dipBehindDip();
        tickBounds();
        comesOn();
        gap();
        rest();
        starts();
        run();
        fewestHoursStart();
        mostHoursStop();
        upsAndDowns();
        downLeavesOutTheOne();
        energy();
        undo();
        undoForgetsStops();
        Due.end();
    }

    private static void tell() {
        int[] least = {0, 0, 0, 4};
        int[] most = {480, 240, 45, 14};
        int[] first = {0, 0, 25, 7};
        for (int what = 0; what < 4; what++) {
            ColdHouse x = new ColdHouse();
            String call = "tell(" + what + ", ..): ";
            Due.is(call + "it is so", x.tell(what, first[what]), ColdHouse.NO);
            Due.is(call + "below", x.tell(what, least[what] - 1), ColdHouse.BAD);
            Due.is(call + "above", x.tell(what, most[what] + 1), ColdHouse.BAD);
            Due.is(call + "no change", x.count(14), 0);
            Due.is(call + "most", x.tell(what, most[what]), first[what]);
            Due.is(call + "is told", x.count(10 + what), most[what]);
            Due.is(call + "most again", x.tell(what, most[what]), ColdHouse.NO);
            Due.is(call + "least", x.tell(what, least[what]), most[what]);
            Due.is(call + "is told", x.count(10 + what), least[what]);
            Due.is(call + "two changes", x.count(14), 2);
            for (int other = 0; other < 4; other++) {
                Due.is(call + "the others stay", x.count(10 + other), other == what ? least[what] : first[other]);
            }
        }
        ColdHouse x = new ColdHouse();
        for (int what : new int[] {-1, 4, Integer.MIN_VALUE, Integer.MAX_VALUE}) {
            Due.is("tell(" + what + ", 5)", x.tell(what, 5), ColdHouse.BAD);
        }
        Due.is("tell(0, MAX)", x.tell(0, Integer.MAX_VALUE), ColdHouse.BAD);
    }

    private static void lock() {
        ColdHouse x = new ColdHouse();
        for (int m : new int[] {-1, 4, 32, Integer.MIN_VALUE, Integer.MAX_VALUE}) {
            Due.is("lock(" + m + ", 1)", x.lock(m, 1), ColdHouse.BAD);
        }
        Due.is("lock(0, -1)", x.lock(0, -1), ColdHouse.BAD);
        Due.is("lock(0, 2)", x.lock(0, 2), ColdHouse.BAD);
        Due.is("lock(0, 0)", x.lock(0, 0), ColdHouse.NO);
        Due.is("no change", x.count(14), 0);
        Due.is("lock(0, 1)", x.lock(0, 1), 1);
        Due.is("lock(3, 1)", x.lock(3, 1), 2);
        Due.is("lock(3, 1) again", x.lock(3, 1), ColdHouse.NO);
        Due.machines(x, "locked", 9, 1, 0, 0, 1);
        Due.is("count(3)", x.count(3), 2);
        Due.is("changes", x.count(14), 2);
        Due.is("lock(0, 0)", x.lock(0, 0), 1);
        Due.is("lock(0, 0) again", x.lock(0, 0), ColdHouse.NO);
        Due.machines(x, "locked", 9, 0, 0, 0, 1);
    }

    /** A LOCKED one is OFF, STOPPED if it was RUNNING, of the LIST no more, of no BEST SET. */
    private static void lockedOnes() {
        ColdHouse x = Due.laid(TWO + "r0,2,9,0;h50,1,0;");
        x.lock(1, 1);
        x.lock(1, 0);
        Due.is("one that was OFF was not STOPPED", x.machine(1, 10), 1);
        x.tell(0, 20);
        Due.is("tick(2)", x.tick(2), 2);
        x.lock(0, 1);
        Due.machines(x, "one is locked", 6, 0, 1);
        Due.is("HOURS stay", x.machine(0, 7), 1);
        Due.is("it may not start", x.machine(0, 10), 0);
        Due.is("it is not listed", x.count(4), 0);
        Due.is("it does not start", x.tick(10), 0);
        Due.is("best(10, 0)", x.best(10, 0), 2);
        x.lock(0, 0);
        Due.is("it was STOPPED long ago", x.machine(0, 10), 1);
        x.tick(1);
        x.lock(0, 1);
        x.lock(0, 0);
        Due.is("it was STOPPED just now", x.machine(0, 10), 0);
        x.tick(1);
        x.lock(0, 1);
        x.lock(0, 0);
        Due.is("it stays STOPPED when it was", x.tick(1), 0);
        Due.is("REST is over", x.machine(0, 10), 1);
        x.dip();
        Due.is("the other is listed", x.machine(1, 12), 0);
        x.lock(1, 1);
        Due.is("it is no more", x.machine(1, 12), ColdHouse.NONE);
        x.lock(1, 0);
        Due.is("and does not come again", x.count(4), 0);
    }

    private static void dip() {
        ColdHouse x = Due.laid(TWO + QUICK);
        Due.is("dip() of none", x.dip(), 0);
        Due.is("is a change", x.count(14), 1);
        Due.is("none listed", x.count(4), 0);
        x.tell(0, 20);
        x.tick(4);
        Due.machines(x, "one is ON", 6, 2, 1);
        Due.is("UPS", x.count(6), 2);
        Due.is("dip()", x.dip(), 2);
        Due.counts(x, "behind it", 2, 0, 0, 0, 2, 4, 0, 0, 2);
        Due.machines(x, "listed", 12, 0, 1);
        Due.machines(x, "REST is 0", 10, 1, 1);
        Due.is("dip() again", x.dip(), 0);
        Due.machines(x, "they stay", 12, 0, 1);
        Due.is("the first comes", x.tick(1), 1);
        Due.machines(x, "the first came", 6, 1, 0);
        Due.machines(x, "listed", 12, ColdHouse.NONE, 0);
        Due.is("the second comes", x.tick(1), 1);
        Due.is("none left", x.count(4), 0);
        Due.is("UPS are 0 with a LIST", x.count(6), 0);
    }

    private static void dipOrder() {
        ColdHouse x = Due.laid("c1,10,1,1,1,1;c1,20,1,1,1,1;c1,30,1,1,1,1;c1,20,1,1,1,1;c1,10,1,1,1,1;c1,30,1,1,1,1;" + QUICK);
        x.tell(0, 480);
        Due.is("tick(6)", x.tick(6), 6);
        Due.is("dip()", x.dip(), 6);
        Due.machines(x, "the greatest first", 12, 4, 2, 0, 3, 5, 1);
        x.lock(2, 1);
        Due.machines(x, "without one", 12, 3, 1, ColdHouse.NONE, 2, 4, 0);
        Due.is("count(4)", x.count(4), 5);
    }

    /** GAP holds for those of the LIST; REST and STARTS do not; UP does not count while there is a LIST. */
    private static void dipBehindDip() {
        ColdHouse x = Due.laid("c1,20,1,1,0,1;c1,10,1,1,0,1;r0,30,1,3;h50,1,0;");
        x.tell(0, 30);
        Due.is("tick(5)", x.tick(5), 2);
        x.dip();
        Due.is("GAP 3 counts from the last start of any", x.tick(3), 0);
        Due.is("then it comes, against REST and STARTS", x.tick(1), 1);
        Due.is("the other waits", x.tick(3), 0);
        Due.is("dip()", x.dip(), 1);
        Due.machines(x, "behind those of the LIST", 12, 1, 0);
        Due.is("the other comes first", x.tick(1), 1);
        Due.machines(x, "the other", 6, 0, 1);
        x.tell(0, 0);
        Due.is("the rest comes without LOAD", x.tick(4), 1);
        Due.machines(x, "both", 8, 3, 2);
    }

    private static void tickBounds() {
        ColdHouse x = new ColdHouse();
        for (int n : new int[] {0, -1, 61, Integer.MIN_VALUE, Integer.MAX_VALUE}) {
            Due.is("tick(" + n + ")", x.tick(n), ColdHouse.BAD);
        }
        Due.is("no TICKS", x.count(5) + x.count(14), 0);
        for (int k = 0; k < 166; k++) {
            Due.is("tick(60)", x.tick(60), 0);
        }
        Due.is("tick(40)", x.tick(40), ColdHouse.NO);
        Due.is("tick(61) stays BAD", x.tick(61), ColdHouse.BAD);
        Due.is("tick(39)", x.tick(39), 0);
        Due.is("count(5)", x.count(5), 9999);
        Due.is("tick(1)", x.tick(1), ColdHouse.NO);
        x.tell(0, 30);
        Due.is("ahead goes on", x.ahead(60, 1), 1);
        Due.is("it may start", x.machine(0, 10), 1);
        x.undo();
        x.undo();
        Due.is("count(5)", x.count(5), 9960);
        Due.is("tick(39)", x.tick(39), 0);
    }

    private static void comesOn() {
        ColdHouse x = Due.laid(TWO + QUICK);
        x.tell(0, 5);
        Due.is("tick 1", x.tick(1), 1);
        Due.machines(x, "tick 1", 6, 1, 0);
        Due.machines(x, "tick 1", 7, 0, 0);
        Due.is("tick 3", x.tick(2), 0);
        Due.machines(x, "tick 3", 6, 1, 0);
        Due.is("nothing is made", x.now(0), 0);
        x.tick(1);
        Due.machines(x, "tick 4", 6, 2, 0);
        Due.machines(x, "tick 4", 7, 3, 0);
        Due.machines(x, "tick 4", 8, 1, 0);
        Due.machines(x, "tick 4", 11, 5, 0);
    }

    private static void gap() {
        for (int gap = 0; gap <= 9; gap++) {
            ColdHouse x = Due.laid(TWO + "r0,0,9," + gap + ";h50,1,0;");
            x.tell(0, 20);
            Due.is("GAP " + gap + ": the first", x.tick(1), 1);
            for (int k = 0; k < gap; k++) {
                Due.is("GAP " + gap + ": it may not", x.machine(1, 10), 0);
                Due.is("GAP " + gap + ": the second waits", x.tick(1), 0);
            }
            Due.is("GAP " + gap + ": it may", x.machine(1, 10), 1);
            Due.is("GAP " + gap + ": the second", x.tick(1), 1);
        }
    }

    private static void rest() {
        for (int rest : new int[] {0, 1, 7, 30}) {
            ColdHouse x = Due.laid("c1,10,5,10,0,3;r0," + rest + ",9,0;h50,1,0;");
            x.tell(0, 10);
            x.tick(3);
            x.lock(0, 1);
            x.lock(0, 0);
            for (int k = 0; k < rest; k++) {
                Due.is("REST " + rest + ": it may not", x.machine(0, 10), 0);
                Due.is("REST " + rest + ": it rests", x.tick(1), 0);
            }
            Due.is("REST " + rest + ": it may", x.machine(0, 10), 1);
            Due.is("REST " + rest + ": it starts", x.tick(1), 1);
        }
    }

    private static void starts() {
        for (int starts = 1; starts <= 9; starts++) {
            ColdHouse x = Due.laid("c1,10,5,10,0,3;r0,0," + starts + ",0;h50,1,0;");
            x.tell(0, 10);
            for (int k = 0; k < starts; k++) {
                Due.is("STARTS " + starts + ": it starts", x.tick(1), 1);
                x.lock(0, 1);
                x.lock(0, 0);
            }
            Due.is("STARTS " + starts + ": no more", x.tick(60 - starts), 0);
            Due.is("STARTS " + starts + ": tick 60", x.count(5), 60);
            Due.is("STARTS " + starts + ": it may again", x.machine(0, 10), 1);
            x.undo();
            x.tick(59 - starts);
            Due.is("STARTS " + starts + ": in tick 60 not yet", x.machine(0, 10), 0);
            Due.is("STARTS " + starts + ": ahead", x.ahead(1, 1), 0);
            Due.is("STARTS " + starts + ": in tick 61", x.tick(2), 1);
            Due.is("STARTS " + starts + ": so often", x.machine(0, 8), starts + 1);
        }
    }

    private static void run() {
        for (int run : new int[] {0, 3, 4, 30}) {
            ColdHouse x = Due.laid(TWO + "r" + run + ",0,9,0;h50,99,0;");
            x.tell(0, 10);
            Due.is("both start", x.tick(1), 1);
            x.tell(0, 20);
            Due.is("both start", x.tick(1), 1);
            x.tell(0, 5);
            int first = Math.max(4, 1 + run + 1);
            Due.is("RUN " + run + ": not yet", x.tick(first - 3) + x.count(1), 2);
            x.tick(1);
            Due.machines(x, "RUN " + run + ": the first stops", 6, 0, first < 5 ? 1 : 2);
        }
    }

    private static void fewestHoursStart() {
        ColdHouse x = Due.laid("c1,10,5,10,0,3;c1,10,5,10,0,3;c1,10,5,10,0,3;" + QUICK);
        x.tell(0, 10);
        x.tick(1);
        Due.machines(x, "of several the lowest", 6, 1, 0, 0);
        x.tick(1);
        Due.machines(x, "then the next", 6, 1, 1, 0);
        x.lock(0, 1);
        x.lock(0, 0);
        x.lock(1, 1);
        x.lock(1, 0);
        Due.machines(x, "HOURS", 7, 1, 0, 0);
        x.tick(1);
        Due.machines(x, "fewest HOURS, of several the lowest", 6, 0, 1, 0);
        x.tick(1);
        Due.machines(x, "fewest HOURS", 6, 0, 1, 1);
        x.tell(0, 20);
        x.tick(1);
        Due.machines(x, "the last one", 6, 1, 1, 1);
    }

    private static void mostHoursStop() {
        ColdHouse x = Due.laid("c1,10,5,10,0,3;c1,10,5,10,0,3;c1,10,5,10,0,3;r0,0,9,0;h50,99,0;");
        x.tell(0, 30);
        x.tick(3);
        x.lock(0, 1);
        x.lock(0, 0);
        x.tick(4);
        Due.machines(x, "HOURS", 7, 5, 5, 4);
        Due.machines(x, "all are ON", 6, 2, 2, 2);
        x.tell(0, 10);
        x.tick(1);
        Due.machines(x, "of several the highest stops", 6, 2, 0, 2);
        x.tell(0, 5);
        x.tick(1);
        Due.machines(x, "then the one of the most HOURS", 6, 0, 0, 2);
        x.tell(0, 0);
        x.tick(9);
        Due.machines(x, "the last one never stops", 6, 0, 0, 2);
    }

    private static void upsAndDowns() {
        ColdHouse x = Due.laid(TWO + "r0,0,9,0;h80,40,3;");
        x.tell(0, 9);
        x.tick(3);
        Due.is("UPS", x.count(6), 3);
        Due.is("above WAIT", x.tick(1), 1);
        Due.is("UPS are 0", x.count(6), 0);
        x.tick(3);
        Due.is("UPS", x.count(6), 3);
        x.tell(0, 8);
        x.tick(1);
        Due.is("8 is not above 80 of 100", x.count(6), 0);
        x.tell(0, 9);
        Due.is("the second", x.tick(4), 1);
        x.tick(3);
        x.tell(0, 17);
        x.tick(20);
        Due.is("UPS go on, none may start", x.count(6), 20);
        x.tell(0, 4);
        x.tick(2);
        Due.is("4 is not below 40 of 100", x.count(6) + x.count(7), 0);
        x.tell(0, 3);
        x.tick(3);
        Due.is("DOWNS", x.count(7), 3);
        x.tell(0, 17);
        x.tick(1);
        Due.is("DOWNS are 0 by an UP", x.count(7) * 10 + x.count(6), 1);
        x.tell(0, 3);
        x.tick(1);
        Due.is("UPS are 0 by a DOWN", x.count(6) * 10 + x.count(7), 1);
        x.tell(0, 4);
        x.tick(1);
        Due.is("DOWNS are 0 by neither", x.count(6) + x.count(7), 0);
        x.tell(0, 3);
        x.tick(3);
        Due.is("DOWNS again", x.count(7), 3);
        x.dip();
        Due.is("DOWNS are 0 by a DIP", x.count(7), 0);
        x.undo();
        Due.is("DOWNS as they were", x.count(7), 3);
        Due.is("still two", x.count(1), 2);
        x.tick(1);
        Due.is("above WAIT: one", x.count(1), 1);
        Due.is("DOWNS are 0", x.count(7), 0);
        x.tick(5);
        Due.is("one cannot go", x.count(1) * 10 + x.count(7), 10);
    }

    private static void downLeavesOutTheOne() {
        ColdHouse x = Due.laid("c1,40,1,1,0,1;c1,10,1,1,0,1;r0,0,9,0;h99,50,0;");
        x.tell(0, 45);
        x.tick(10);
        Due.is("both", x.count(2), 2);
        x.tell(0, 5);
        x.tick(1);
        Due.is("5 is not below 50 of the other's 10", x.count(2), 2);
        x.tell(0, 4);
        x.tick(1);
        Due.machines(x, "4 is", 6, 0, 2);
        ColdHouse z = Due.laid("c1,80,1,1,0,1;c1,80,1,1,0,1;c1,80,1,1,0,1;r0,0,9,0;h99,89,9;");
        z.tell(0, 240);
        z.tick(40);
        z.tell(0, 143);
        z.tick(1);
        Due.is("14300 is not below 14240", z.count(7), 0);
        z.tell(0, 142);
        z.tick(1);
        Due.is("14200 is", z.count(7), 1);
        ColdHouse y = Due.laid("c1,40,1,1,0,1;c1,10,1,1,0,1;r9,0,9,0;h99,50,0;");
        y.tell(0, 45);
        y.tick(2);
        y.tell(0, 0);
        y.tick(8);
        Due.is("none may stop yet", y.count(1) * 10 + y.count(7), 20);
        y.tick(1);
        Due.machines(y, "one may", 6, 0, 2);
    }

    private static void energy() {
        ColdHouse x = Due.laid("c2,10,5,10,0,3;c2,10,5,10,0,3;" + QUICK);
        x.tell(2, 7);
        x.tell(0, 5);
        x.tick(4);
        Due.is("ahead of each TICK none was ON", x.count(9), 0);
        Due.is("POWER NOW", x.now(3), 35);
        x.tick(1);
        Due.is("ENERGY", x.count(9), 35);
        x.tell(0, 0);
        x.tick(2);
        Due.is("LEAST at least", x.count(9), 35 + 2 * 17);
        x.tell(0, 480);
        x.tick(1);
        Due.is("MOST at most", x.count(9), 35 + 2 * 17 + 65);
        x.tell(2, 45);
        x.tell(3, 5);
        x.tick(1);
        Due.is("by the LIFT as it is", x.count(9), 35 + 2 * 17 + 65 + 105);
        Due.is("RUNNING ones", x.count(1), 2);
    }

    private static void undo() {
        ColdHouse x = Due.laid(TWO + QUICK);
        Due.is("undo() of none", x.undo(), ColdHouse.NO);
        x.tell(0, 20);
        x.tick(5);
        x.dip();
        x.lock(0, 1);
        x.tick(7);
        x.tell(1, 9);
        Due.is("four at most", x.count(14), 4);
        Due.is("tell undone", x.undo(), 3);
        Due.is("WATER", x.count(11), 0);
        Due.is("tick undone", x.undo(), 2);
        Due.counts(x, "tick undone", 2, 0, 0, 1, 1, 5, 0, 0, 2, 83, 20);
        Due.machines(x, "tick undone", 12, ColdHouse.NONE, 0);
        Due.is("lock undone", x.undo(), 1);
        Due.counts(x, "lock undone", 2, 0, 0, 0, 2, 5);
        Due.machines(x, "lock undone", 12, 0, 1);
        Due.is("dip undone", x.undo(), 0);
        Due.counts(x, "dip undone", 2, 2, 2, 0, 0, 5, 3, 0, 2, 83, 20);
        Due.machines(x, "dip undone", 6, 2, 2);
        Due.machines(x, "dip undone", 7, 4, 3);
        Due.is("no fifth", x.undo(), ColdHouse.NO);
        Due.is("a new one", x.tell(0, 19), 20);
        Due.is("count(14)", x.count(14), 1);
        x.write(65);
        x.wipe();
        x.tell(0, 19);
        x.tick(0);
        Due.is("what is none is not undone", x.undo(), 0);
        Due.is("LOAD", x.count(10), 20);
        Due.is("no more", x.undo(), ColdHouse.NO);
    }

    /** What was STARTED and STOPPED in TICKS that are UNDONE was not. */
    private static void undoForgetsStops() {
        ColdHouse x = Due.laid(TWO + "r0,9,1,0;h50,99,0;");
        x.tell(0, 9);
        Due.is("both start", x.tick(12), 2);
        Due.is("one stops", x.count(1), 1);
        Due.machines(x, "they may not start", 10, 0, 0);
        x.undo();
        Due.machines(x, "they may", 10, 1, 1);
        Due.is("both start", x.tick(12), 2);
    }
}
