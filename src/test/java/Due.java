/** Counts the answers of one test and tells those that are not as due. */
final class Due {
    private static int asked = 0;
    private static int wrong = 0;

    private Due() {
    }

    static void is(String call, long got, long want) {
        asked++;
        if (got != want) {
            wrong++;
            System.out.println(call + " answered " + got + ", due is " + want);
        }
    }

    static void isTrue(String what, boolean holds) {
        is(what, holds ? 1 : 0, 1);
    }

    /** Writes a text behind THE TEXT. */
    static void write(ColdHouse x, String text) {
        int length = x.count(15);
        for (int k = 0; k < text.length(); k++) {
            is("write(" + (int) text.charAt(k) + ")", x.write(text.charAt(k)), length + k + 1);
        }
    }

    /** A new object on which a text is LAID. */
    static ColdHouse laid(String text) {
        ColdHouse x = new ColdHouse();
        write(x, text);
        isTrue("lay() of " + text, x.lay() > 0);
        return x;
    }

    static void counts(ColdHouse x, String when, int... want) {
        for (int what = 0; what < want.length; what++) {
            is(when + ": count(" + what + ")", x.count(what), want[what]);
        }
    }

    /** The same thing asked of every MACHINE. */
    static void machines(ColdHouse x, String when, int what, int... want) {
        for (int m = 0; m < want.length; m++) {
            is(when + ": machine(" + m + ", " + what + ")", x.machine(m, what), want[m]);
        }
    }

    static void end() {
        System.out.println(asked + " answers asked for, " + wrong + " not as due");
        if (wrong != 0 || asked == 0) {
            System.exit(1);
        }
    }
}
