/** The sentences of the document on THE TEXT that name a boundary: promises 1 to 5 and their terms. */
public final class EdgesOfTextTest {
    private static final String C = "c1,10,5,10,0,3;";
    private static final String MACHINE_BOUNDS =
        "(6 at most), each with a LEAST load (1 to 40), a MOST (LEAST to 80), a BASE, a SLOPE, a CURVE (0 to 99 each), a FLOW (1 to 40).";
    private static final String ITEMS = "A TEXT is ITEMS one behind the other, a ; behind each; numbers have one or two figures:";
    private static final String RUN_RULES =
        "RUN is M (0 to 30), REST Q (0 to 30), STARTS N (1 to 9), GAP G (0 to 9) (5, 3, 3, 1 without; of several the last one counts)";
    private static final String STAGE_RULES =
        "UP is U (50 to 99), DOWN D (1 to 99), WAIT W (0 to 9) (90, 60, 2 without; of several the last one counts)";
    private static final String FAULT =
        "FAULT: the place (from 0 on) of the first letter of the first ITEM that is not so (or is a seventh MACHINE).";

    public static void main(String[] args) {
        newObject();
        laidAtFirst();
        nextMachine();
        machineBounds();
        sixMachines();
        figures();
        items();
        runRules();
        stageRules();
        runRulesWithout();
        stageRulesWithout();
        faultOrNone();
        faultPlaces();
        faultOfTheSeventh();
        write();
        wipe();
        laid();
        layRefused();
        laidAnew();
        Due.end();
    }

    private static void newObject() {
        Calls.same("`ColdHouse()`: As told; THE TEXT is empty.", "wipe()=0",
            "{c10,40,20,9,30,12;c10,40,25,8,20,12;c5,20,8,12,40,6;c20,60,40,7,15,20;r5,3,3,1;h90,60,2;} wipe()=88");
        Calls.hold("`ColdHouse()`: As told; THE TEXT is empty.",
            "count(15)=0 count(0)=4 machine(3,5)=20 machine(4,5)=BAD fault()=NONE lay()=NO undo()=NO");
    }

    private static void laidAtFirst() {
        String sentence = "at first c10,40,20,9,30,12;c10,40,25,8,20,12;c5,20,8,12,40,6;c20,60,40,7,15,20;r5,3,3,1;h90,60,2;).";
        Calls.hold(sentence, numbersOf(0, 10, 40, 20, 9, 30, 12) + numbersOf(1, 10, 40, 25, 8, 20, 12) + numbersOf(2, 5, 20, 8, 12, 40, 6)
            + numbersOf(3, 20, 60, 40, 7, 15, 20) + "count(0)=4");
        Calls.hold(sentence, "tell(0,36)=0 tick(2)=0 tick(1)=1 machine(0,6)=1 tick(1)=0 count(6)=0 tell(0,37)=36 tick(1)=0 count(6)=1 tick(2)=1"
            + " machine(1,6)=1");
    }

    private static String numbersOf(int m, int... numbers) {
        StringBuilder asked = new StringBuilder();
        for (int what = 0; what < numbers.length; what++) {
            asked.append("machine(").append(m).append(',').append(what).append(")=").append(numbers[what]).append(' ');
        }
        return asked.toString();
    }

    private static void nextMachine() {
        Calls.hold("cL,H,B,S,V,F the next MACHINE: LEAST L, MOST H, BASE B, SLOPE S, CURVE V, FLOW F",
            "{c1,2,3,4,5,6;} " + numbersOf(0, 1, 2, 3, 4, 5, 6) + "machine(1,0)=BAD",
            "{r5,3,3,1;c1,2,3,4,5,6;h90,60,2;c7,8,9,10,11,12;r5,3,3,1;c13,14,15,16,17,18;h90,60,2;} " + numbersOf(0, 1, 2, 3, 4, 5, 6)
                + numbersOf(1, 7, 8, 9, 10, 11, 12) + numbersOf(2, 13, 14, 15, 16, 17, 18) + "machine(3,0)=BAD",
            "{c1,2,3,4,5,6;c1,2,3,4,5,6;} {c7,8,9,10,11,12;} " + numbersOf(0, 7, 8, 9, 10, 11, 12) + "machine(1,0)=BAD");
    }

    private static void good(String sentence, String item) {
        int machines = item.startsWith("c") ? 2 : 1;
        Calls.hold(sentence, "'" + C + item + "' fault()=NONE lay()=" + machines, "'" + item + C + "' fault()=NONE lay()=" + machines);
    }

    private static void bad(String sentence, String item) {
        Calls.hold(sentence, "'" + C + item + "' fault()=" + C.length() + " lay()=NO count(0)=4", "'" + item + C + "' fault()=0 lay()=NO");
    }

    private static void machineBounds() {
        for (String item : new String[] {"c1,1,0,0,0,1;", "c1,80,0,0,0,1;", "c40,40,0,0,0,1;", "c40,80,99,99,99,40;", "c39,40,99,0,0,1;",
            "c1,10,0,99,0,1;", "c1,10,0,0,99,1;", "c1,10,0,0,0,40;"}) {
            good(MACHINE_BOUNDS, item);
        }
        for (String item : new String[] {"c0,10,5,10,0,3;", "c41,41,5,10,0,3;", "c41,80,5,10,0,3;", "c10,9,5,10,0,3;", "c40,39,5,10,0,3;",
            "c1,0,5,10,0,3;",
            "c10,81,5,10,0,3;", "c10,99,5,10,0,3;", "c1,10,100,10,0,3;", "c1,10,5,100,0,3;", "c1,10,5,10,100,3;", "c1,10,5,10,0,0;",
            "c1,10,5,10,0,41;"}) {
            bad(MACHINE_BOUNDS, item);
        }
        Calls.hold(MACHINE_BOUNDS,
            "{c1,1,0,0,0,1;c40,80,99,99,99,40;} machine(0,0)=1 machine(0,1)=1 machine(0,2)=0 machine(0,3)=0 machine(0,4)=0 machine(0,5)=1"
            + " machine(1,0)=40 machine(1,1)=80 machine(1,2)=99 machine(1,3)=99 machine(1,4)=99 machine(1,5)=40",
            "{c39,40,1,2,3,39;} machine(0,0)=39 machine(0,1)=40 machine(0,2)=1 machine(0,3)=2 machine(0,4)=3 machine(0,5)=39");
    }

    private static void sixMachines() {
        Calls.hold("MACHINES are 0, 1, ..", "{" + C + "} count(0)=1 machine(0,1)=10 machine(1,1)=BAD",
            "{" + C.repeat(5) + "c1,11,5,10,0,3;} count(0)=6 machine(4,1)=10 machine(5,1)=11 machine(6,1)=BAD machine(-1,1)=BAD",
            "'" + C.repeat(7) + "' lay()=NO count(0)=4");
    }

    private static void figures() {
        for (String item : new String[] {"c01,09,00,05,07,03;", "c1,9,0,5,7,3;", "r00,00,01,00;", "r05,03,09,09;", "h50,01,00;", "h50,1,0;"}) {
            good(ITEMS, item);
        }
        Calls.hold(ITEMS, "{c01,09,00,05,07,03;} machine(0,0)=1 machine(0,1)=9 machine(0,2)=0 machine(0,3)=5 machine(0,4)=7 machine(0,5)=3");
        for (String item : new String[] {"c1,10,5,10,0,3;", "r5,3,3,1;", "h90,60,2;"}) {
            String[] numbers = item.substring(1, item.length() - 1).split(",");
            for (int k = 0; k < numbers.length; k++) {
                for (String other : new String[] {"", "0" + "0".repeat(2 - numbers[k].length()) + numbers[k], "-" + numbers[k], "+1", "a", "1a",
                    "a1", "/", ":", "1.0"}) {
                    bad(ITEMS, item.charAt(0) + with(numbers, k, other) + ";");
                }
            }
        }
    }

    private static String with(String[] numbers, int k, String other) {
        String[] changed = numbers.clone();
        changed[k] = other;
        return String.join(",", changed);
    }

    private static void items() {
        Calls.hold(ITEMS, "fault()=NONE", "';' fault()=0", "'" + C + ";' fault()=15", "';" + C + "' fault()=0");
        for (String item : new String[] {C, "r5,3,3,1;", "h90,60,2;"}) {
            String open = item.substring(0, item.length() - 1);
            Calls.hold(ITEMS, "'" + open + "' fault()=0 lay()=NO write(59)=" + item.length() + " fault()=NONE",
                "'" + C + open + "' fault()=15 lay()=NO write(59)=" + (15 + item.length()) + " fault()=NONE",
                "'" + open + "' write(32)=" + item.length() + " write(59)=" + (item.length() + 1) + " fault()=0",
                "write(32)=1 '" + item + "' fault()=0",
                "'" + item + "' write(32)=" + (item.length() + 1) + " fault()=" + item.length());
            bad(ITEMS, open + ",;");
            bad(ITEMS, open + ",1;");
            bad(ITEMS, open + ":");
            bad(ITEMS, open.substring(0, open.lastIndexOf(',')) + ";");
            bad(ITEMS, item.replaceFirst(",", ";"));
            bad(ITEMS, item.replaceFirst(",", "."));
            bad(ITEMS, item.replaceFirst(",", ",,"));
            bad(ITEMS, item.toUpperCase());
            bad(ITEMS, item.charAt(0) + item);
            bad(ITEMS, item.substring(1));
            bad(ITEMS, item.charAt(0) + ";");
            bad(ITEMS, item.charAt(0) + "," + item.substring(1));
            for (char kind : new char[] {'b', 'd', 'q', 's', 'g', 'i'}) {
                bad(ITEMS, kind + item.substring(1));
            }
        }
    }

    private static void runRules() {
        for (String item : new String[] {"r0,0,1,0;", "r30,0,1,0;", "r0,30,1,0;", "r0,0,9,0;", "r0,0,1,9;", "r30,30,9,9;"}) {
            good(RUN_RULES, item);
        }
        for (String item : new String[] {"r31,0,1,0;", "r99,0,1,0;", "r0,31,1,0;", "r0,99,1,0;", "r0,0,0,0;", "r0,0,10,0;", "r0,0,1,10;"}) {
            bad(RUN_RULES, item);
        }
    }

    private static void stageRules() {
        for (String item : new String[] {"h50,1,0;", "h99,1,0;", "h50,99,0;", "h50,1,9;", "h99,99,9;", "h50,50,0;", "h50,51,0;"}) {
            good(STAGE_RULES, item);
        }
        for (String item : new String[] {"h49,1,0;", "h0,1,0;", "h100,1,0;", "h50,0,0;", "h50,100,0;", "h50,1,10;"}) {
            bad(STAGE_RULES, item);
        }
    }

    /** Its rules are all others: what is LAID behind it without r or h has none of them. */
    private static final String OTHERS = "{" + C + "r30,30,9,9;h99,1,9;} {";

    /** GAP 1, STARTS 3, REST 3, RUN 5, in this order, each at the last TICK where it holds and the first where it is over. */
    private static void runRulesWithout() {
        String one = OTHERS + C + "h50,1,0;";
        String two = OTHERS + C + C + "h50,99,0;";
        String startAndStop = "tick(1)=1 lock(0,1)=1 lock(0,0)=0 ";
        for (String rules : new String[] {"", "r5,3,3,1;", "r30,30,1,9;r5,3,3,1;", "r5,3,3,1;h50,99,9;r5,3,3,1;h50,99,0;"}) {
            Calls.hold(RUN_RULES, two + rules + "} tell(0,20)=0 tick(1)=1 machine(1,10)=0 tick(1)=0 machine(1,10)=1 tick(1)=1",
                one + rules + "} tell(0,10)=0 " + startAndStop + "tick(3)=0 " + startAndStop + "tick(3)=0 " + startAndStop
                    + "tick(50)=0 machine(0,10)=0 count(5)=59 tick(1)=0 machine(0,10)=1 tick(1)=1",
                one + rules + "} tell(0,10)=0 " + startAndStop + "tick(2)=0 machine(0,10)=0 tick(1)=0 machine(0,10)=1 tick(1)=1",
                two + rules + "} tell(0,20)=0 tick(3)=2 tell(0,1)=20 tick(3)=0 count(2)=2 count(7)=0 tick(1)=0 machine(0,6)=0 machine(1,6)=2");
        }
        Calls.hold(RUN_RULES, "{" + C + C + "r5,3,3,9;h50,1,0;r5,3,3,2;} tell(0,20)=0 tick(1)=1 tick(2)=0 machine(1,10)=1",
            "{r5,3,3,9;" + C + C + "h50,1,0;} tell(0,20)=0 tick(1)=1 tick(8)=0 machine(1,10)=0 tick(1)=0 machine(1,10)=1");
    }

    /** UP 90 of 100 is 90, DOWN 60 of 100 is 60; three of 50 each are RUNNING in the second run. */
    private static void stageRulesWithout() {
        String two = OTHERS + "c1,50,1,1,1,1;".repeat(2) + "r0,0,9,0;";
        String three = OTHERS + "c1,50,1,1,1,1;".repeat(3) + "r0,0,9,0;";
        for (String rules : new String[] {"", "h90,60,2;", "h50,1,9;h90,60,2;", "h90,60,2;r9,9,1,9;h90,60,2;r0,0,9,0;"}) {
            Calls.hold(STAGE_RULES, two + rules + "} tell(0,90)=0 tick(2)=0 count(6)=2 tick(1)=1 count(6)=0 tick(2)=0 tick(1)=1"
                    + " tick(5)=0 count(6)=0 tell(0,91)=90 tick(1)=0 count(6)=1 tell(0,90)=91 tick(1)=0 count(6)=0",
                three + rules + "} tell(0,150)=0 tick(9)=3 tick(3)=0 tell(0,60)=150 tick(1)=0 count(7)=0 tell(0,59)=60 tick(1)=0 count(7)=1"
                    + " tick(1)=0 count(7)=2 count(1)=3 tick(1)=0 count(7)=0 count(1)=2");
        }
        String small = C + C + "r0,0,9,0;";
        Calls.hold(STAGE_RULES, "{h90,60,9;" + small + "h90,60,1;} tell(0,10)=0 tick(1)=0 tick(1)=1", "{h50,60,0;" + small + "} tell(0,10)=0"
            + " tick(1)=1");
    }

    private static void faultOrNone() {
        Calls.hold("FAULT of THE TEXT. NONE.", "fault()=NONE 'x' fault()=0 wipe()=1 fault()=NONE", "'" + C + "' fault()=NONE lay()=1 fault()=NONE"
            + " 'x' fault()=15 lay()=NO fault()=15", "'r5,3,3,1;' fault()=NONE lay()=NO fault()=NONE");
    }

    private static void faultPlaces() {
        Calls.hold(FAULT, "'x" + C + "' fault()=0", "'" + C + "x' fault()=15", "'" + C + "r5,3,3,1;x;y;' fault()=24",
            "'" + C + "r5,3,3,1;h90,60,2;' fault()=NONE", "'" + C + "r5,3,0,1;h90,60,2;' fault()=15", "'" + C + "r5,3,3,1;h90,60,10;' fault()=24",
            "'" + C + "r5,3,3,1;h90,60,2;c' fault()=33 write(49)=35 fault()=33", "'" + C + "c1,10,5,10,0,41;c0' fault()=15",
            "'c1' fault()=0 ',10,5,10,0,3' fault()=0 ';' fault()=NONE 'h' fault()=15 wipe()=16 fault()=NONE");
        String full = "c10,10,10,10,10,10;".repeat(5) + "r5,3,3,1;".repeat(11);
        Calls.hold(FAULT, "'" + full + "r;5,' fault()=194 lay()=NO", "'" + full + "r5,3,3' write(59)=FULL fault()=194 lay()=NO wipe()=200");
    }

    private static void faultOfTheSeventh() {
        String six = C.repeat(6);
        Calls.hold(FAULT, "'" + six + "' fault()=NONE lay()=6", "'" + six + "c' fault()=90", "'" + six + C + "' fault()=90 lay()=NO",
            "'" + six + "r5,3,3,1;" + C + "h90,60,2;' fault()=99 lay()=NO", "'" + six + C + C + "' fault()=90", "'" + six + C + "x' fault()=90",
            "'" + six + "x" + C + "' fault()=90", "'" + six + "r0,0,0,0;" + C + "' fault()=90", "'" + C + "x;" + six + "' fault()=15",
            "'r5,3,3,1;" + six + "r5,3,3,1;h90,60,2;' fault()=NONE lay()=6");
    }

    private static void write() {
        String sentence = "A letter (32 to 126, as in ASCII) comes behind THE TEXT: how long it is. BAD; FULL: it has 200.";
        Calls.hold(sentence, "write(31)=BAD write(127)=BAD write(-1)=BAD write(0)=BAD write(10)=BAD write(-2147483648)=BAD write(2147483647)=BAD"
            + " write(355)=BAD write(65635)=BAD count(15)=0 write(32)=1 write(126)=2 count(15)=2");
        Calls.hold("THE TEXT is letters (200 at most).",
            "'" + "a".repeat(199) + "' write(98)=200 write(98)=FULL write(31)=BAD write(127)=BAD count(15)=200 wipe()=200 write(98)=1");
        String full = "c10,10,10,10,10,10;".repeat(6) + "r5,3,3,1;".repeat(6) + "h90,60,2;".repeat(3);
        Calls.hold("THE TEXT is letters (200 at most).", "'" + full + "r5,3,' fault()=195 lay()=NO write(51)=FULL count(15)=200",
            "'" + (C + "r0,0,9,0;").repeat(4) + "h50,1,0;".repeat(12) + "h50,1,00' write(59)=FULL fault()=192",
            "'" + (C + "r0,0,9,0;").repeat(4) + "h50,1,0;".repeat(12) + "h50,1,0;' fault()=NONE write(99)=FULL lay()=4 count(15)=200 tell(0,10)=0"
                + " tick(1)=1");
    }

    private static void wipe() {
        Calls.hold("THE TEXT is empty: how long it was.", "wipe()=0 wipe()=0", "'c' wipe()=1 count(15)=0 wipe()=0 write(99)=1",
            "'" + "a".repeat(200) + "' wipe()=200 fault()=NONE count(15)=0", "tell(0,30)=0 'ab' wipe()=2 count(10)=30 count(0)=4 undo()=0"
                + " count(15)=0",
            "'" + C + C + "' wipe()=30 '" + C + "' fault()=NONE lay()=1",
            "'" + C + "' wipe()=15 'c1,10,5,10,0,3' fault()=0 lay()=NO", "'" + C + "' wipe()=15 'c1,' fault()=0 wipe()=3 fault()=NONE lay()=NO");
    }

    private static void laid() {
        String sentence = "LAID: how many MACHINES; all OFF, none LOCKED, no HOURS, STARTS, ENERGY, TICKS, UPS, DOWNS, the LIST empty; "
            + "LOAD 0, WATER 0, OUTSIDE 25, COLD 7; nothing can be UNDONE. NO.";
        String text = "{" + C + C + "c1,20,5,10,0,3;r0,9,1,5;h50,99,9;}";
        String none = " count(1)=0 count(2)=0 count(3)=0 count(4)=0 count(5)=0 count(6)=0 count(7)=0 count(8)=0 count(9)=0 count(10)=0 count(11)=0"
            + " count(12)=25 count(13)=7 count(14)=0 undo()=NO machine(0,10)=1 machine(1,10)=1 machine(2,10)=1";
        String[] scenes = {
            " tell(0,20)=0 tell(1,240)=0 tell(2,45)=25 tell(3,14)=7 tick(10)=1 tick(3)=0 count(6)=3",
            " tell(0,20)=0 tick(30)=3 tell(0,1)=20 tick(5)=0 count(7)=5 count(2)=3 machine(0,7)=25",
            " tell(0,20)=0 tick(30)=3 lock(0,1)=1 dip()=2 count(4)=2 count(3)=1",
            " lock(0,1)=1 lock(1,1)=2 lock(2,1)=3 tell(0,30)=0 tick(60)=0",
            " tell(0,20)=0 tick(10)=1 dip()=1 tick(6)=1 count(8)=2"};
        for (String scene : scenes) {
            Calls.hold(sentence, text + scene + " lay()=3" + none);
            Calls.same(sentence, text + scene + " lay()=3", text);
            Calls.same(sentence, text + scene + " lay()=3 lay()=3", text);
            Calls.same("THE TEXT stays when it is LAID.", text + scene + " {" + C + "}", "{" + C + "}");
        }
        Calls.hold("THE TEXT stays when it is LAID.", "{" + C + "} count(15)=15 fault()=NONE lay()=1 '" + C + "' count(0)=1 lay()=2 count(15)=30");
    }

    private static void layRefused() {
        String sentence = "LAID is a TEXT without FAULT with a MACHINE at least (NO else;";
        String scene = "tell(0,150)=0 tick(20)=4 lock(1,1)=1 dip()=3 tick(3)=2 ";
        for (String text : new String[] {"r5,3,3,1;", "h90,60,2;", "r5,3,3,1;h90,60,2;", "c", C + "x", C + "c", "x" + C, C.repeat(7), "r5,3,3,1;c"}) {
            Calls.hold(sentence, "'" + text + "' lay()=NO count(0)=4", scene + "'" + text + "' lay()=NO count(15)=" + text.length()
                + " count(14)=4 undo()=3");
        }
        Calls.hold(sentence, "lay()=NO", scene + "lay()=NO undo()=3", "{" + C + "} wipe()=15 lay()=NO count(0)=1", "'r5,3,3,1;" + C
            + "' lay()=1", "'" + C + "' lay()=1");
    }

    /** What the last LAID one had is gone: MACHINES, rules and what was reckoned for them. */
    private static void laidAnew() {
        String sentence = "THE TEXT stays when it is LAID.";
        String six = "{" + "c2,20,9,9,9,9;".repeat(6) + "r30,30,1,9;h99,99,9;}";
        Calls.same(sentence, six + " tell(0,90)=0 tick(60)=5 best(2,0)=1 share(63,12,5)=2 {" + C + "}", "{" + C + "}");
        Calls.hold(sentence, "{c1,10,5,10,0,3;} share(1,10,-1)=83 best(10,1)=83 {c1,10,6,10,0,3;} share(1,10,-1)=84 best(10,1)=84",
            "{c1,10,5,10,0,3;h50,1,0;} tell(0,10)=0 tick(4)=1 now(3)=83 {c1,10,6,10,0,3;h50,1,0;} tell(0,10)=0 tick(4)=1 now(3)=84 machine(0,11)=10");
    }
}
