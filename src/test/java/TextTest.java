/** Promises 1 to 5: a new object, write, wipe, fault, lay. */
public final class TextTest {
    private static final String C = "c10,40,20,9,30,12;";

    public static void main(String[] args) {
        newObject();
        constants();
        write();
        wipe();
        faults();
        seventhMachine();
        lay();
        layRefused();
        layClearsAll();
        layForgetsWhatWasReckoned();
        layAtAnyTime();
        rulesAtFirst();
        lastRuleCounts();
        Due.end();
    }

    private static void newObject() {
        ColdHouse x = new ColdHouse();
        Due.counts(x, "new", 4, 0, 0, 0, 0, 0, 0, 0, 0, 0, 0, 0, 25, 7, 0, 0);
        int[][] laid = {{10, 40, 20, 9, 30, 12}, {10, 40, 25, 8, 20, 12}, {5, 20, 8, 12, 40, 6}, {20, 60, 40, 7, 15, 20}};
        for (int m = 0; m < 4; m++) {
            for (int what = 0; what < 6; what++) {
                Due.is("new: machine(" + m + ", " + what + ")", x.machine(m, what), laid[m][what]);
            }
            for (int what = 6; what < 10; what++) {
                Due.is("new: machine(" + m + ", " + what + ")", x.machine(m, what), 0);
            }
            Due.is("new: it may start", x.machine(m, 10), 1);
            Due.is("new: it makes nothing", x.machine(m, 11), 0);
            Due.is("new: it is not listed", x.machine(m, 12), ColdHouse.NONE);
        }
        Due.is("new: undo()", x.undo(), ColdHouse.NO);
        Due.is("new: fault()", x.fault(), ColdHouse.NONE);
        Due.is("new: lay()", x.lay(), ColdHouse.NO);
    }

    private static void constants() {
        Due.is("BAD", ColdHouse.BAD, -1);
        Due.is("NO", ColdHouse.NO, -2);
        Due.is("FULL", ColdHouse.FULL, -3);
        Due.is("NONE", ColdHouse.NONE, -4);
    }

    private static void write() {
        ColdHouse x = new ColdHouse();
        int[] bad = {31, 127, 0, -1, 256, 99 + 65536, Integer.MIN_VALUE, Integer.MAX_VALUE};
        for (int letter : bad) {
            Due.is("write(" + letter + ")", x.write(letter), ColdHouse.BAD);
        }
        Due.is("nothing written", x.count(15), 0);
        Due.is("write(32)", x.write(32), 1);
        Due.is("write(126)", x.write(126), 2);
        for (int k = 3; k <= 200; k++) {
            Due.is("write(99), letter " + k, x.write(99), k);
        }
        Due.is("write(99) at 200", x.write(99), ColdHouse.FULL);
        Due.is("write(31) at 200", x.write(31), ColdHouse.BAD);
        Due.is("still 200", x.count(15), 200);
        Due.is("fault() of 200", x.fault(), 0);
        Due.is("not undone", x.undo(), ColdHouse.NO);
    }

    private static void wipe() {
        ColdHouse x = new ColdHouse();
        Due.is("wipe() of nothing", x.wipe(), 0);
        Due.write(x, "c;");
        Due.is("wipe()", x.wipe(), 2);
        Due.is("wipe() again", x.wipe(), 0);
        Due.is("count(15)", x.count(15), 0);
        Due.is("fault()", x.fault(), ColdHouse.NONE);
        Due.write(x, C);
        Due.is("an old letter is gone", x.fault(), ColdHouse.NONE);
        Due.is("LAID stays", x.count(0), 4);
        for (int k = 18; k < 200; k++) {
            x.write(65);
        }
        Due.is("wipe() of 200", x.wipe(), 200);
    }

    private static void fault(String text, int want) {
        ColdHouse x = new ColdHouse();
        Due.write(x, text);
        Due.is("fault() of " + text, x.fault(), want);
        Due.is("fault() of " + text + " changes nothing", x.count(15), text.length());
    }

    private static void faults() {
        int none = ColdHouse.NONE;
        fault("", none);
        for (String item : new String[] {C, "c1,1,0,0,0,1;", "c40,80,99,99,99,40;", "c40,40,0,0,0,1;", "c01,02,00,03,04,05;",
            "r0,0,1,0;", "r30,30,9,9;", "r05,03,03,01;", "h50,1,0;", "h99,99,9;", "h60,90,09;"}) {
            fault(item, none);
            fault(C + item, none);
            fault(item + "x", item.length());
            fault(item.substring(0, item.length() - 1), 0);
            fault(C + item.substring(0, item.length() - 1), C.length());
            fault(item.replace(';', ','), 0);
            fault(item + ";", item.length());
            fault(" " + item, 0);
            fault(item.replace(',', ';'), 0);
            fault(item.replace(",", ",,"), 0);
            fault(item.replace(",", ", "), 0);
            fault(item.replace(";", ",1;"), 0);
            fault(item.replace(";", "a;"), 0);
            fault(item.substring(0, item.lastIndexOf(',')) + ";", 0);
            fault(item.toUpperCase(), 0);
        }
        for (String item : new String[] {";", "c", "r", "h", "c;", "r;", "h;", "c,,,,,;", "5,3,3,1;", "d5,3,3,1;",
            "c0,40,20,9,30,12;", "c41,42,1,1,1,1;", "c10,9,1,1,1,1;", "c10,81,1,1,1,1;", "c1,0,1,1,1,1;",
            "c10,80,99,99,99,41;", "c10,80,99,99,99,0;", "c010,40,20,9,30,12;", "c10,40,100,9,30,12;",
            "c10,40,20,009,30,12;", "c10,40,20,9,-1,12;", "c10,40,20,9,30,012;", "c/,40,20,9,30,12;", "c:,40,20,9,30,12;",
            "r31,0,1,0;", "r0,31,1,0;", "r0,0,0,0;", "r0,0,10,0;", "r0,0,1,10;", "r005,3,3,1;",
            "h49,1,0;", "h100,1,0;", "h50,0,0;", "h50,100,0;", "h50,1,10;"}) {
            fault(item, 0);
            fault(C + item, C.length());
            fault(C + item + C, C.length());
            fault("r5,3,3,1;h90,60,2;" + item + item, 18);
        }
    }

    private static void seventhMachine() {
        String small = "c1,2,3,4,5,6;";
        fault(small.repeat(6), ColdHouse.NONE);
        fault(small.repeat(6) + "r5,3,3,1;h90,60,2;", ColdHouse.NONE);
        fault(small.repeat(7), 78);
        fault(small.repeat(6) + "h90,60,2;" + small + "x", 87);
        fault(small.repeat(7) + small, 78);
        fault("x;" + small.repeat(7), 0);
        ColdHouse x = new ColdHouse();
        Due.write(x, small.repeat(7));
        Due.is("lay() of seven", x.lay(), ColdHouse.NO);
        Due.is("nothing is LAID by it", x.count(0), 4);
    }

    private static void lay() {
        ColdHouse x = new ColdHouse();
        Due.write(x, "c1,2,3,4,5,6;r0,0,1,0;c40,80,99,98,97,40;");
        Due.is("lay()", x.lay(), 2);
        Due.is("THE TEXT stays", x.count(15), 41);
        int[][] laid = {{1, 2, 3, 4, 5, 6}, {40, 80, 99, 98, 97, 40}};
        for (int m = 0; m < 2; m++) {
            for (int what = 0; what < 6; what++) {
                Due.is("machine(" + m + ", " + what + ")", x.machine(m, what), laid[m][what]);
            }
        }
        Due.is("machine(2, 0)", x.machine(2, 0), ColdHouse.BAD);
        Due.is("lay() again", x.lay(), 2);
        Due.write(x, "c1,2,3,4,5,6;c1,2,3,4,5,6;c1,2,3,4,5,6;c1,2,3,4,5,6;");
        Due.is("LAID is not told yet", x.count(0), 2);
        Due.is("lay() of six", x.lay(), 6);
        Due.is("machine(5, 5)", x.machine(5, 5), 6);
        Due.is("machine(6, 5)", x.machine(6, 5), ColdHouse.BAD);
    }

    private static void layRefused() {
        for (String text : new String[] {"", "r5,3,3,1;", "h90,60,2;r5,3,3,1;", C + "c", C + ";", "x" + C}) {
            ColdHouse x = new ColdHouse();
            Due.write(x, text);
            x.tell(0, 30);
            x.tick(5);
            Due.is("lay() of " + text, x.lay(), ColdHouse.NO);
            Due.is("TICKS stay", x.count(5), 5);
            Due.is("LOAD stays", x.count(10), 30);
            Due.is("MACHINES stay", x.count(0), 4);
            Due.is("changes stay", x.count(14), 2);
            Due.is("letters stay", x.count(15), text.length());
        }
    }

    private static void layClearsAll() {
        ColdHouse x = new ColdHouse();
        Due.write(x, "c1,10,5,10,0,3;c1,10,5,10,0,3;r9,9,1,9;h50,1,0;");
        Due.is("lay()", x.lay(), 2);
        x.tell(0, 20);
        x.tell(1, 5);
        x.tell(2, 30);
        x.tell(3, 9);
        x.tick(30);
        x.dip();
        x.lock(1, 1);
        x.tick(1);
        Due.is("lay() anew", x.lay(), 2);
        Due.counts(x, "laid anew", 2, 0, 0, 0, 0, 0, 0, 0, 0, 0, 0, 0, 25, 7, 0, 47);
        for (int m = 0; m < 2; m++) {
            for (int what = 6; what < 10; what++) {
                Due.is("laid anew: machine(" + m + ", " + what + ")", x.machine(m, what), 0);
            }
            Due.is("laid anew: GAP, REST and STARTS are forgotten", x.machine(m, 10), 1);
            Due.is("laid anew: machine(" + m + ", 11)", x.machine(m, 11), 0);
            Due.is("laid anew: machine(" + m + ", 12)", x.machine(m, 12), ColdHouse.NONE);
        }
        Due.is("undo() behind LAID", x.undo(), ColdHouse.NO);
        Due.is("POWER asked for is of the new ones", x.share(1, 10, -1), 5 + 78);
        Due.is("best(10, 1)", x.best(10, 1), 5 + 78);
        x.wipe();
        Due.write(x, "c1,10,6,10,0,3;");
        Due.is("lay() of one", x.lay(), 1);
        Due.is("share of the new one", x.share(1, 10, -1), 6 + 78);
        Due.is("best of the new one", x.best(10, 1), 6 + 78);
        x.tell(0, 10);
        x.tick(6);
        Due.is("POWER NOW of the new one", x.now(3), 6 + 78);
    }

    private static void layForgetsWhatWasReckoned() {
        ColdHouse x = new ColdHouse();
        for (int base = 1; base <= 5; base++) {
            x.wipe();
            Due.write(x, "c1,10," + base + ",10,0,3;h50,1,0;");
            Due.is("lay()", x.lay(), 1);
            Due.is("share by BASE " + base, x.share(1, 10, -1), base + 78);
            Due.is("best by BASE " + base, x.best(10, 1), base + 78);
            x.tell(0, 10);
            x.tick(6);
            Due.is("POWER NOW by BASE " + base, x.now(3), base + 78);
        }
    }

    /** LAID while one is ON and UPS are told, while DOWNS are, and while there is a LIST. */
    private static void layAtAnyTime() {
        int[] none = {2, 0, 0, 0, 0, 0, 0, 0, 0, 0, 0, 0, 25, 7, 0};
        ColdHouse x = Due.laid("c1,10,5,10,0,3;c1,10,5,10,0,3;r0,9,1,0;h50,99,9;");
        x.tell(0, 20);
        x.tick(30);
        Due.isTrue("UPS", x.count(6) > 0 && x.count(2) == 2);
        x.lay();
        Due.counts(x, "with UPS", none);
        x.tell(0, 20);
        x.tick(30);
        x.tell(0, 1);
        x.tick(4);
        Due.is("DOWNS", x.count(7), 4);
        x.lay();
        Due.counts(x, "with DOWNS", none);
        x.tell(0, 20);
        x.tick(30);
        x.dip();
        Due.is("LIST", x.count(4), 2);
        x.lay();
        Due.counts(x, "with a LIST", none);
        Due.machines(x, "REST and STARTS are forgotten", 10, 1, 1);
    }

    /** RUN 5, REST 3, STARTS 3, GAP 1, UP 90, DOWN 60, WAIT 2: at first, without r and h, and told so. */
    private static void rulesAtFirst() {
        String machines = "c10,40,20,9,30,12;c10,40,25,8,20,12;c5,20,8,12,40,6;c20,60,40,7,15,20;";
        for (String text : new String[] {"", machines, machines + "r5,3,3,1;h90,60,2;"}) {
            runRestGapWait(withRules(text));
            startsAtFirst(withRules(text));
            upAndDown(withRules(text));
        }
    }

    private static ColdHouse withRules(String text) {
        ColdHouse x = new ColdHouse();
        if (!text.isEmpty()) {
            Due.write(x, "c1,10,5,10,0,3;r9,9,1,9;h50,1,0;");
            x.lay();
            x.wipe();
            Due.write(x, text);
            Due.is("lay()", x.lay(), 4);
        }
        return x;
    }

    private static void runRestGapWait(ColdHouse x) {
        x.tell(0, 40);
        Due.is("WAIT 2: not yet", x.tick(2), 0);
        Due.is("WAIT 2: over", x.tick(1), 1);
        Due.is("GAP 1: not yet", x.machine(1, 10), 0);
        x.tick(1);
        Due.is("GAP 1: over", x.machine(1, 10), 1);
        Due.is("the second", x.tick(2), 1);
        x.tell(0, 1);
        x.tick(2);
        Due.is("RUN 5: not yet", x.count(7), 0);
        x.tick(1);
        Due.is("RUN 5: over", x.count(7), 1);
        x.tick(1);
        Due.is("WAIT 2: not yet", x.count(7) * 10 + x.count(1), 22);
        x.tick(1);
        Due.is("WAIT 2: over", x.count(7) * 10 + x.count(1), 1);
        Due.is("it is OFF", x.machine(0, 6), 0);
        x.tick(2);
        Due.is("REST 3: not yet", x.machine(0, 10), 0);
        x.tick(1);
        Due.is("REST 3: over", x.machine(0, 10), 1);
    }

    private static void startsAtFirst(ColdHouse x) {
        x.lock(1, 1);
        x.lock(2, 1);
        x.lock(3, 1);
        x.tell(0, 40);
        x.tick(3);
        for (int k = 0; k < 2; k++) {
            x.lock(0, 1);
            x.lock(0, 0);
            Due.is("STARTS 3: not all yet", x.tick(4), 1);
        }
        x.lock(0, 1);
        x.lock(0, 0);
        Due.is("STARTS 3: all", x.tick(50), 0);
        Due.is("STARTS 3: in tick 62 too", x.machine(0, 10), 0);
        x.tick(1);
        Due.is("STARTS 3: in tick 63 no more", x.machine(0, 10), 1);
    }

    private static void upAndDown(ColdHouse x) {
        x.tell(0, 160);
        Due.is("all start", x.tick(20), 4);
        x.tell(0, 144);
        x.tick(1);
        Due.is("UP 90: not above", x.count(6), 0);
        x.tell(0, 145);
        x.tick(1);
        Due.is("UP 90: above", x.count(6), 1);
        x.tell(0, 72);
        x.tick(1);
        Due.is("DOWN 60: not below", x.count(7), 0);
        x.tell(0, 71);
        x.tick(1);
        Due.is("DOWN 60: below", x.count(7), 1);
    }

    private static void lastRuleCounts() {
        ColdHouse x = Due.laid("r9,9,1,9;h50,1,9;c1,10,5,10,0,3;h50,1,1;r0,0,1,0;c1,10,5,10,0,3;h90,99,0;");
        x.tell(0, 10);
        Due.is("WAIT 0, GAP 0", x.tick(2), 2);
        Due.is("UP 90", x.tick(1) + x.count(6), 0);
    }
}
