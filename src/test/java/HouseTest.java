/** Promises 15 to 17: now, ahead, count. */
public final class HouseTest {
    private static final String TWO = "c2,10,5,10,0,3;c3,10,1,10,0,4;r0,0,9,0;h50,1,0;";

    public static void main(String[] args) {
        nowBad();
        nowMade();
        round();
        aboveBest();
        aheadBad();
        aheadAsTicks();
        aheadShort();
        aheadChangesNothing();
        count();
        Due.end();
    }

    private static void nowBad() {
        ColdHouse x = new ColdHouse();
        for (int what : new int[] {-1, 7, Integer.MIN_VALUE, Integer.MAX_VALUE}) {
            Due.is("now(" + what + ")", x.now(what), ColdHouse.BAD);
            Due.is("count(" + what + ")", x.count(what == 7 ? 16 : what), ColdHouse.BAD);
        }
    }

    private static void due(ColdHouse x, String when, int... want) {
        for (int what = 0; what < want.length; what++) {
            Due.is(when + ": now(" + what + ")", x.now(what), want[what]);
        }
    }

    private static void nowMade() {
        ColdHouse x = Due.laid(TWO);
        x.tell(2, 0);
        due(x, "nothing", 0, 0, 0, 0, 0, 0, 0);
        x.tell(0, 12);
        due(x, "all is short", 0, 12, 0, 0, 0, 0, ColdHouse.NONE);
        x.tick(2);
        due(x, "STARTING ones make nothing", 0, 12, 0, 0, 7, 0, ColdHouse.NONE);
        x.tick(2);
        due(x, "one is ON, at MOST", 10, 2, 0, 65, 7, 0, ColdHouse.NONE);
        x.tick(1);
        due(x, "both are ON", 12, 0, 0, 78, 7, 0, 0);
        Due.machines(x, "the lowest has the least", 11, 2, 10);
        x.tell(0, 20);
        due(x, "all they can", 20, 0, 0, 126, 7, 0, 0);
        x.tell(0, 21);
        due(x, "above that", 20, 1, 0, 126, 7, 0, ColdHouse.NONE);
        x.tell(0, 5);
        due(x, "LEASTS", 5, 0, 0, 36, 7, 0, 36 - 31);
        x.tell(0, 4);
        due(x, "below that", 5, 0, 1, 36, 7, 0, ColdHouse.NONE);
        x.tell(0, 0);
        due(x, "without LOAD", 5, 0, 5, 36, 7, 0, ColdHouse.NONE);
        x.tell(2, 45);
        due(x, "by LIFT", 5, 0, 5, 6 + 19 + 29, 7, 38, ColdHouse.NONE);
    }

    private static void round() {
        ColdHouse x = Due.laid(TWO);
        x.tell(0, 20);
        Due.is("none RUNNING", x.now(4), 0);
        x.tick(1);
        Due.is("a STARTING one counts", x.now(4), 3);
        x.tick(1);
        x.tell(1, 2);
        Due.is("less WATER", x.now(4), 5);
        x.tell(1, 7);
        Due.is("0", x.now(4), 0);
        x.tell(1, 240);
        Due.is("0 at least", x.now(4), 0);
    }

    private static void aboveBest() {
        ColdHouse x = new ColdHouse();
        x.tell(0, 30);
        x.tick(6);
        Due.is("one is ON", x.count(2), 1);
        Due.is("now(6)", x.now(6), x.power(0, 30, 18) - x.best(30, 1));
        Due.isTrue("it is above", x.now(6) > 0);
        x.lock(3, 1);
        Due.is("without a LOCKED one", x.now(6), x.power(0, 30, 18) - x.best(30, 1));
        x.lock(1, 1);
        x.lock(2, 1);
        Due.is("of itself", x.now(6), 0);
        x.dip();
        Due.is("SHORT", x.now(6), ColdHouse.NONE);
        x.tell(0, 0);
        Due.is("nothing by none", x.now(6), 0);
    }

    private static void aheadBad() {
        ColdHouse x = new ColdHouse();
        for (int n : new int[] {0, -1, 61, Integer.MIN_VALUE, Integer.MAX_VALUE}) {
            Due.is("ahead(" + n + ", 0)", x.ahead(n, 0), ColdHouse.BAD);
        }
        for (int what : new int[] {-1, 4, Integer.MIN_VALUE, Integer.MAX_VALUE}) {
            Due.is("ahead(1, " + what + ")", x.ahead(1, what), ColdHouse.BAD);
        }
    }

    private static void aheadAsTicks() {
        ColdHouse x = new ColdHouse();
        x.tell(0, 130);
        for (int k = 0; k < 40; k++) {
            int n = 1 + k * 7 % 60;
            int running = x.ahead(n, 0);
            int started = x.ahead(n, 1);
            int energy = x.ahead(n, 2);
            int before = x.count(9);
            if (k == 30) {
                x.dip();
                x.undo();
            }
            Due.is("tick(" + n + ")", x.tick(n), started);
            Due.is("RUNNING", x.count(1), running);
            Due.is("ENERGY", x.count(9) - before, energy);
            if (k % 3 == 0) {
                x.undo();
                x.dip();
            }
            x.tell(0, k * 31 % 170);
            x.tick(1 + k % 3);
        }
    }

    private static void aheadShort() {
        ColdHouse x = Due.laid(TWO);
        Due.is("never", x.ahead(60, 3), 0);
        x.tell(0, 10);
        Due.is("behind 1", x.ahead(1, 3), 1);
        Due.is("behind 3", x.ahead(3, 3), 3);
        Due.is("in the fourth it is ON", x.ahead(4, 3), 3);
        x.tell(0, 20);
        Due.is("until both are ON", x.ahead(60, 3), 4);
        x.tell(0, 21);
        Due.is("ever", x.ahead(60, 3), 60);
        Due.is("both run", x.ahead(60, 0), 2);
        Due.is("both started", x.ahead(60, 1), 2);
        Due.is("one runs", x.ahead(1, 0), 1);
        Due.is("one started", x.ahead(1, 1), 1);
        Due.is("no ENERGY", x.ahead(4, 2), 0);
        Due.is("ENERGY", x.ahead(6, 2), 83 + 83 + 79);
    }

    private static void aheadChangesNothing() {
        ColdHouse x = new ColdHouse();
        x.tell(0, 150);
        x.tick(12);
        x.dip();
        x.tick(2);
        int[] before = all(x);
        for (int what = 0; what < 4; what++) {
            x.ahead(60, what);
        }
        x.now(6);
        x.best(30, 0);
        x.share(15, 90, 2);
        int[] behind = all(x);
        for (int k = 0; k < before.length; k++) {
            Due.is("answer " + k + " behind ahead", behind[k], before[k]);
        }
    }

    private static int[] all(ColdHouse x) {
        int[] answers = new int[16 + 4 * 13 + 7];
        int n = 0;
        for (int what = 0; what < 16; what++) {
            answers[n++] = x.count(what);
        }
        for (int m = 0; m < 4; m++) {
            for (int what = 0; what < 13; what++) {
                answers[n++] = x.machine(m, what);
            }
        }
        for (int what = 0; what < 7; what++) {
            answers[n++] = x.now(what);
        }
        return answers;
    }

    private static void count() {
        ColdHouse x = Due.laid(TWO);
        Due.is("THE TEXT stays", x.count(15), TWO.length());
        x.tell(0, 20);
        x.tell(1, 9);
        x.tell(2, 7);
        x.tick(4);
        Due.counts(x, "one ON", 2, 2, 1, 0, 0, 4, 2, 0, 2, 0, 20, 9, 7, 7, 4, TWO.length());
        x.dip();
        x.lock(0, 1);
        x.tell(3, 4);
        x.tick(1);
        Due.counts(x, "one back", 2, 1, 0, 1, 0, 5, 0, 0, 3, 0, 20, 9, 7, 4, 4, TWO.length());
    }
}
