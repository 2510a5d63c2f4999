import java.util.Random;

/** Long runs of calls, the same each time, on ColdHouse and on PlainHouse: every answer is compared. */
public final class RandomRunsTest {
    private static final int RUNS = 1200;
    private static final int CALLS = 512;
    /** What calls behind the 512th answer is free, but none may throw. */
    private static final int LONG_RUNS = 4;
    private static final int LONG_CALLS = 5000;

    private final Random random;
    private final ColdHouse x = new ColdHouse();
    private final PlainHouse y = new PlainHouse();
    private final String run;
    private int calls = 0;
    private int capacity = 160;

    private RandomRunsTest(int seed) {
        random = new Random(seed);
        run = "run " + seed;
    }

    public static void main(String[] args) {
        for (int seed = 1; seed <= RUNS; seed++) {
            new RandomRunsTest(seed).go(seed, CALLS);
        }
        for (int seed = RUNS + 1; seed <= RUNS + LONG_RUNS; seed++) {
            new RandomRunsTest(seed).go(seed, LONG_CALLS);
        }
        Due.end();
    }

    private void go(int seed, int most) {
        if (seed % 4 != 0) {
            writeAndLay(seed % 3 == 0);
        }
        while (calls < most) {
            if (random.nextInt(150) == 0) {
                writeAndLay(false);
            }
            call();
        }
    }

    private int upTo(int most) {
        return random.nextInt(most + 1);
    }

    private int from(int least, int most) {
        return least + random.nextInt(most - least + 1);
    }

    /** Most often in the bounds, else at their edges or far off. */
    private int about(int least, int most) {
        switch (random.nextInt(25)) {
            case 0: return least - 1;
            case 1: return most + 1;
            case 2: return least;
            case 3: return most;
            case 4: return random.nextInt(10) == 0 ? random.nextInt() : from(least, most);
            default: return from(least, most);
        }
    }

    private void due(String call, int got, int want) {
        calls++;
        Due.is(run + ", call " + calls + ": " + call, got, want);
    }

    private void writeAndLay(boolean wide) {
        due("wipe()", x.wipe(), y.wipe());
        String text = randomText(wide);
        for (int k = 0; k < text.length(); k++) {
            int letter = random.nextInt(2000) == 0 ? from(30, 128) : text.charAt(k);
            due("write(" + letter + ")", x.write(letter), y.write(letter));
        }
        due("fault() of " + text, x.fault(), y.fault());
        due("lay() of " + text, x.lay(), y.lay());
        capacity = 0;
        for (int m = 0; m < y.count(0); m++) {
            capacity += y.machine(m, 1);
        }
    }

    private String randomText(boolean wide) {
        StringBuilder text = new StringBuilder();
        int machines = random.nextInt(30) == 0 ? 7 : from(1, 6);
        for (int m = 0; m < machines; m++) {
            int least = from(1, wide ? 10 : 40);
            int most = wide ? from(60, 80) : Math.min(80, least + upTo(20));
            int flat = random.nextInt(3);
            text.append('c').append(least).append(',').append(most).append(',').append(upTo(flat == 0 ? 3 : 99)).append(',')
                .append(upTo(flat == 0 ? 3 : 99)).append(',').append(upTo(flat == 1 ? 2 : 99)).append(',').append(from(1, 40)).append(';');
        }
        if (random.nextInt(4) != 0) {
            text.append('r').append(upTo(random.nextBoolean() ? 5 : 30)).append(',').append(upTo(random.nextBoolean() ? 5 : 30))
                .append(',').append(from(1, random.nextBoolean() ? 3 : 9)).append(',').append(upTo(random.nextBoolean() ? 2 : 9)).append(';');
        }
        if (random.nextInt(4) != 0) {
            text.append('h').append(from(50, 99)).append(',').append(from(1, 99)).append(',').append(upTo(random.nextBoolean() ? 2 : 9)).append(';');
        }
        return text.toString();
    }

    private void call() {
        int n = y.count(0);
        switch (random.nextInt(20)) {
            case 0, 1: {
                int load = random.nextInt(4) == 0 ? about(0, 480) : upTo(capacity);
                due("tell(0, " + load + ")", x.tell(0, load), y.tell(0, load));
                break;
            }
            case 2: {
                int what = about(0, 3);
                int v = what == 1 ? about(0, 240) : what == 2 ? about(0, 45) : about(4, 14);
                due("tell(" + what + ", " + v + ")", x.tell(what, v), y.tell(what, v));
                break;
            }
            case 3: {
                int m = about(0, n - 1);
                int is = random.nextInt(3) == 0 ? about(0, 1) : 0;
                due("lock(" + m + ", " + is + ")", x.lock(m, is), y.lock(m, is));
                break;
            }
            case 4:
                if (random.nextInt(3) == 0) {
                    due("dip()", x.dip(), y.dip());
                }
                break;
            case 5, 6, 7, 8, 9: {
                int ticks = random.nextInt(6) == 0 ? about(1, 60) : from(1, 6);
                due("tick(" + ticks + ")", x.tick(ticks), y.tick(ticks));
                break;
            }
            case 10:
                if (random.nextBoolean()) {
                    due("undo()", x.undo(), y.undo());
                }
                break;
            case 11, 12, 13: {
                int m = about(0, n - 1);
                int what = random.nextInt(3) == 0 ? about(0, 12) : from(6, 12);
                due("machine(" + m + ", " + what + ")", x.machine(m, what), y.machine(m, what));
                break;
            }
            case 14: {
                int what = about(0, 15);
                due("count(" + what + ")", x.count(what), y.count(what));
                break;
            }
            default:
                ask(n);
        }
    }

    private void ask(int n) {
        switch (random.nextInt(12)) {
            case 0: {
                int m = about(0, n - 1);
                int load = about(0, 99);
                int lift = about(0, 45);
                due("power(" + m + ", " + load + ", " + lift + ")", x.power(m, load, lift), y.power(m, load, lift));
                break;
            }
            case 1, 2, 3: {
                int set = about(0, (1 << n) - 1);
                int load = random.nextInt(4) == 0 ? about(0, 480) : upTo(capacity);
                int m = about(-1, n - 1);
                due("share(" + set + ", " + load + ", " + m + ")", x.share(set, load, m), y.share(set, load, m));
                break;
            }
            case 4: {
                int load = random.nextInt(4) == 0 ? about(0, 480) : upTo(capacity);
                int what = about(0, 1);
                due("best(" + load + ", " + what + ")", x.best(load, what), y.best(load, what));
                break;
            }
            case 5, 6, 7, 8: {
                int what = random.nextInt(4) == 0 ? about(0, 6) : from(0, 5);
                due("now(" + what + ")", x.now(what), y.now(what));
                break;
            }
            case 9: {
                int letter = random.nextInt(3) == 0 ? about(32, 126) : "crh0123456789,;".charAt(random.nextInt(15));
                due("write(" + letter + ")", x.write(letter), y.write(letter));
                due("fault()", x.fault(), y.fault());
                break;
            }
            default: {
                int ticks = random.nextBoolean() ? about(1, 60) : from(1, 10);
                int what = about(0, 3);
                due("ahead(" + ticks + ", " + what + ")", x.ahead(ticks, what), y.ahead(ticks, what));
            }
        }
    }
}
