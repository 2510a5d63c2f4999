/** The sentences of the document on what goes by in a TICK and what stands then, that name a boundary: its part 2. */
public final class EdgesOfTicksTest {
    /** It takes 5 and 7.8 a load by LIFT 18, as things are LAID. */
    private static final String C = "c1,10,5,10,0,3;";
    private static final String ONE = "{" + C + "r0,0,9,0;h50,1,0;} ";
    private static final String TWO = "{" + C + C + "r0,0,9,0;h50,1,0;} ";
    private static final String STOPPING = "{" + C + C + "r0,0,9,0;h50,99,0;} ";
    private static final String UP_RULE = "if 100 times LOAD is above UP times MOSTS of all RUNNING ones: UPS are 1 more, DOWNS 0; "
        + "if UPS are above WAIT and some MACHINE MAY START, that of these with the fewest HOURS, of several the lowest, is STARTED, UPS are 0;";
    private static final String DOWN_RULE = "if some MACHINE MAY STOP, and 100 times LOAD is below DOWN times MOSTS of all RUNNING ones but that"
        + " which would: "
        + "DOWNS are 1 more, UPS 0; if DOWNS are above WAIT, it is OFF, DOWNS are 0;";
    private static final String MAY_START = "MAY START: one that is OFF, not LOCKED, was STOPPED more than REST TICKS ago (or never), "
        + "was STARTED in fewer than STARTS of this TICK and the 59 ahead of it, GAP being over.";
    private static final String MAY_STOP = "MAY STOP: of those that are ON, STARTED more than RUN TICKS ago, the one of the most HOURS, of several"
        + " the highest.";
    private static final String LIST_RULE = "if the LIST is not empty: if GAP is over, the first of the LIST is STARTED (and is of it no more);";
    private static final String GAP_RULE =
        "GAP is over, if the number of this TICK less that of the TICK in which any was STARTED last is above GAP (or none was).";
    private static final String ABOVE_BEST =
        "POWER NOW less that of the BEST SET for LOAD (6; NONE: there is none, or it is SHORT or TOO MUCH now). BAD.";

    public static void main(String[] args) {
        offStartingOn();
        madeByBestShare();
        made();
        round();
        energyAndHours();
        comesOn();
        firstThatIsSo();
        listFirst();
        up();
        upsAndWait();
        whoStarts();
        down();
        downsAndWait();
        neither();
        gap();
        rest();
        starts();
        mayStartAsAsked();
        run();
        whoStops();
        Due.end();
    }

    private static void offStartingOn() {
        Calls.hold("A MACHINE is OFF, STARTING or ON; RUNNING is one that is not OFF.",
            ONE + "machine(0,6)=0 count(1)=0 count(2)=0 tell(0,10)=0 tick(1)=1 machine(0,6)=1 count(1)=1 count(2)=0 tick(2)=0 machine(0,6)=1"
                + " count(1)=1 count(2)=0"
                + " tick(1)=0 machine(0,6)=2 count(1)=1 count(2)=1 lock(0,1)=1 machine(0,6)=0 count(1)=0 count(2)=0");
    }

    /** LEASTS are 2 and 3, MOSTS 10 and 12, FLOWS 3 and 4; the first is ON in tick 4, the second in tick 5. */
    private static final String UNLIKE = "{c2,10,5,10,0,3;c3,12,5,10,0,4;r0,0,9,0;h50,1,0;} ";

    /** A load x takes 0.7722 times x times x, cut: 10 take 38 as 5 and 5, 9 take 31 as 4 and 5 or as 5 and 4. */
    private static void madeByBestShare() {
        String both = "{c1,10,0,0,99,1;c1,10,0,0,99,1;c1,10,0,0,99,1;r0,0,9,0;h50,1,0;} lock(1,1)=1 tell(0,20)=0 tick(5)=2 ";
        Calls.hold("MADE: with SUM the load of all that are ON: what they make by BEST SHARE of LOAD;",
            both + "now(0)=20 machine(0,11)=10 machine(2,11)=10 machine(1,11)=0 tell(0,10)=20 now(0)=10 now(3)=38 machine(0,11)=5 machine(2,11)=5"
                + " tell(0,9)=10 now(0)=9 now(3)=31 machine(0,11)=4 machine(2,11)=5 tell(0,2)=9 now(0)=2 machine(0,11)=1 machine(2,11)=1",
            both + "tell(0,9)=20 tell(2,45)=25 now(0)=9 now(3)=39 machine(0,11)=4 machine(2,11)=5 tick(1)=0 count(9)=116");
    }

    private static void made() {
        String rule = "if LOAD is below their LEASTS together, each makes its LEAST, if it is above their MOSTS together, each its MOST.";
        String both = UNLIKE + "tell(0,22)=0 tick(5)=2 ";
        Calls.hold(rule, UNLIKE + "now(0)=0 now(3)=0 machine(0,11)=0 tell(0,1)=0 now(0)=0 now(3)=0 tell(0,480)=1 now(0)=0 now(1)=480",
            both + "now(0)=22 machine(0,11)=10 machine(1,11)=12 tell(0,23)=22 now(0)=22 machine(0,11)=10 machine(1,11)=12 tell(0,480)=23 now(0)=22"
                + " now(3)=181",
            both + "tell(0,21)=22 now(0)=21 machine(0,11)=9 machine(1,11)=12", both + "tell(0,6)=22 now(0)=6 machine(0,11)=2 machine(1,11)=4",
            both + "tell(0,5)=22 now(0)=5 now(3)=48 tell(0,4)=5 now(0)=5 machine(0,11)=2 machine(1,11)=3 now(3)=48 tell(0,0)=4 now(0)=5 now(3)=48",
            UNLIKE + "tell(0,22)=0 tick(4)=2 now(0)=10 machine(0,11)=10 machine(1,11)=0 now(3)=83 tell(0,1)=22 now(0)=2 machine(0,11)=2"
                + " machine(1,11)=0 now(3)=20");
        String amiss = "SHORT is LOAD less what they make, TOO MUCH that less LOAD, 0 at least each.";
        Calls.hold(amiss, UNLIKE + "now(1)=0 now(2)=0 tell(0,1)=0 now(1)=1 now(2)=0 tell(0,480)=1 now(1)=480 now(2)=0",
            both + "now(1)=0 now(2)=0 tell(0,23)=22 now(1)=1 now(2)=0 tell(0,480)=23 now(1)=458 now(2)=0",
            both + "tell(0,5)=22 now(1)=0 now(2)=0 tell(0,4)=5 now(1)=0 now(2)=1 tell(0,0)=4 now(1)=0 now(2)=5");
        Calls.hold(ABOVE_BEST, UNLIKE + "now(6)=0 tell(0,1)=0 now(6)=NONE tell(0,2)=1"
            + " now(6)=NONE",
            both + "now(6)=0 tell(0,23)=22 now(6)=NONE tell(0,12)=23 now(6)=4 tell(0,5)=12 now(6)=4 tell(0,4)=5 now(6)=NONE tell(0,0)=4 now(6)=NONE");
        Calls.hold("what it makes now (11; 0: not ON)", both + "dip()=2 machine(0,11)=0 machine(1,11)=0 now(0)=0 now(3)=0");
    }

    private static void round() {
        Calls.hold("ROUND is FLOW of all RUNNING ones together less WATER, 0 at least.", UNLIKE + "now(4)=0 tell(1,240)=0 now(4)=0",
            UNLIKE + "tell(0,22)=0 tick(1)=1 now(4)=3 tick(1)=1 now(4)=7 tick(3)=0 now(4)=7 tell(1,6)=0 now(4)=1 tell(1,7)=6 now(4)=0 tell(1,8)=7"
                + " now(4)=0 tell(1,240)=8 now(4)=0",
            UNLIKE + "tell(0,22)=0 tick(5)=2 lock(0,1)=1 now(4)=4 dip()=1 now(4)=0",
            "{" + "c1,80,1,1,1,40;".repeat(6) + "r0,0,9,0;h50,1,0;} tell(0,480)=0 tick(6)=6 now(4)=240 tell(1,239)=0 now(4)=1 tell(1,240)=239"
                + " now(4)=0");
    }

    private static void energyAndHours() {
        String sentence = "first, by how things stand ahead of it, ENERGY is POWER NOW more; HOURS of each RUNNING one are 1 more.";
        Calls.hold(sentence, ONE + "tick(60)=0 count(9)=0 machine(0,7)=0",
            ONE + "tell(0,10)=0 tick(1)=1 machine(0,7)=0 tick(1)=0 machine(0,7)=1 tick(2)=0 machine(0,7)=3 count(9)=0 tick(1)=0 count(9)=83"
                + " machine(0,7)=4 tick(1)=0 count(9)=166",
            STOPPING + "tell(0,20)=0 tick(4)=2 count(9)=0 tick(1)=0 count(9)=83 tell(0,5)=20 tick(1)=0 machine(0,6)=0 machine(0,7)=5 count(9)=131"
                + " tick(1)=0 machine(0,7)=5 count(9)=175",
            ONE + "tell(0,10)=0 tick(4)=1 dip()=1 tick(1)=1 count(9)=0 machine(0,7)=3 tick(1)=0 machine(0,7)=4 count(9)=0",
            ONE + "tell(0,10)=0 tick(4)=1 tell(2,0)=25 tick(1)=0 count(9)=65 tell(2,45)=0 tick(1)=0 count(9)=168 tell(0,0)=10 tick(1)=0"
                + " count(9)=182");
        String most = "{" + "c1,80,99,99,99,1;".repeat(6) + "r0,0,9,0;h50,1,0;} tell(0,480)=0 tell(2,45)=25 tell(3,4)=7 ";
        Calls.hold("NO: there would be more than 9999.", most + "tick(60)=6 165*tick(60)=0 tick(39)=0 count(5)=9999 count(9)=869167635"
            + " machine(0,7)=9998 machine(5,7)=9993 count(6)=9993"
            + " ahead(60,2)=5218920 tick(1)=NO");
    }

    private static void comesOn() {
        String sentence = "Then a STARTING one that was STARTED 3 TICKS ago or more (the number of this TICK less that of the TICK in which it"
            + " was) is ON.";
        Calls.hold(sentence, ONE + "tell(0,10)=0 tick(1)=1 tick(1)=0 machine(0,6)=1 tick(1)=0 machine(0,6)=1 tick(1)=0 machine(0,6)=2",
            ONE + "tick(7)=0 tell(0,10)=0 tick(3)=1 machine(0,6)=1 tick(1)=0 machine(0,6)=2", ONE + "tell(0,10)=0 tick(4)=1 machine(0,6)=2",
            ONE + "tell(0,10)=0 tick(4)=1 dip()=1 tick(1)=1 machine(0,6)=1 tick(2)=0 machine(0,6)=1 tick(1)=0 machine(0,6)=2",
            ONE + "tell(0,10)=0 tick(3)=1 lock(0,1)=1 lock(0,0)=0 tick(1)=1 machine(0,6)=1 tick(2)=0 machine(0,6)=1 tick(1)=0 machine(0,6)=2");
    }

    /** With 16 of 30 both UP (50 of 30 is 15) and DOWN (99 of 20 is 19.8) hold; with a LIST none of them is looked at. */
    private static void firstThatIsSo() {
        String three = "{" + C + C + C + "r0,0,9,0;h50,99,9;} tell(0,30)=0 tick(40)=3 count(6)=10 ";
        Calls.hold("Then one of these, the first that is so:",
            three + "tell(0,16)=30 tick(1)=0 count(6)=11 count(7)=0 tell(0,15)=16 tick(1)=0 count(6)=0 count(7)=1 tell(0,16)=15 tick(1)=0"
                + " count(6)=1 count(7)=0",
            three + "dip()=3 tick(3)=3 count(6)=0 count(7)=0 tick(1)=0 count(6)=1 tell(0,15)=30 tick(3)=0 count(7)=3 dip()=3 tick(1)=1 count(6)=0"
                + " count(7)=0");
        Calls.hold("A TICK, numbered 1, 2, ..:", "count(5)=0 tick(1)=0 count(5)=1 tick(2)=0 count(5)=3 dip()=0 count(5)=3 undo()=2 undo()=1"
            + " count(5)=1");
    }

    /** GAP is 3: one of the LIST is STARTED in each fourth TICK, whatever LOAD is. */
    private static void listFirst() {
        String fallen = "{" + C + C + "r0,30,1,3;h50,1,0;} tell(0,20)=0 tick(5)=2 dip()=2 ";
        Calls.hold(LIST_RULE, fallen + "tick(3)=0 count(4)=2 count(6)=0 tick(1)=1 machine(0,6)=1 machine(0,12)=NONE machine(1,12)=0 count(4)=1"
            + " tick(3)=0 count(6)=0 count(4)=1 tick(1)=1"
                + " count(4)=0 machine(1,12)=NONE count(6)=0 tick(1)=0 count(6)=1",
            fallen + "tell(0,0)=20 tick(3)=0 tick(1)=1 tick(3)=0 tick(1)=1 count(7)=0",
            "{" + C + C + C + "r0,0,9,0;h50,1,0;} tell(0,10)=0 tick(2)=2 dip()=2 tell(0,30)=10 tick(1)=1 machine(2,6)=0 count(6)=0 tick(1)=1"
                + " machine(2,6)=0 count(6)=0 tick(1)=1 machine(2,6)=1");
        Calls.hold(LIST_RULE, "{" + C + C + C + "r0,0,9,9;h50,99,0;} tell(0,30)=0 tick(21)=3 dip()=3 tell(0,1)=30 tick(10)=1 tick(10)=1 tick(9)=0"
            + " count(2)=2 count(7)=0 tick(1)=1"
            + " count(1)=3 count(7)=0 tick(1)=0 count(1)=2 machine(0,6)=0");
        Calls.hold(LIST_RULE, fallen + "lock(0,1)=1 machine(1,12)=0 tick(4)=1 machine(1,6)=1", fallen + "lock(1,1)=1 tick(4)=1 machine(0,6)=1"
            + " count(4)=0",
            fallen + "lock(0,1)=1 lock(1,1)=2 count(4)=0 tick(1)=0 count(6)=1");
    }

    /** MOSTS are 480 together. */
    private static final String FULL_SIZE = "{" + "c1,80,1,1,1,1;".repeat(6) + "r0,0,9,0;";

    private static void up() {
        Calls.hold(UP_RULE, TWO + "tick(9)=0 count(6)=0 tell(0,1)=0 tick(1)=1", TWO + "tell(0,5)=0 tick(1)=1 tick(1)=0 count(6)=0 count(1)=1"
            + " tell(0,6)=5 tick(1)=1",
            TWO + "tell(0,10)=0 tick(2)=2 tick(3)=0 count(6)=0 tell(0,11)=10 tick(1)=0 count(6)=1",
            "{" + C + C + "r0,0,9,0;h99,1,0;} tell(0,9)=0 tick(1)=1 tick(5)=0 count(6)=0 tell(0,10)=9 tick(1)=1",
            "{c1,50,1,1,1,1;c1,50,1,1,1,1;r0,0,9,0;h98,1,0;} tell(0,49)=0 tick(1)=1 tick(1)=0 count(6)=0 tell(0,50)=49 tick(1)=1",
            FULL_SIZE + "h99,1,0;} tell(0,480)=0 tick(6)=6 tell(0,475)=480 tick(1)=0 count(6)=0 tell(0,476)=475 tick(1)=0 count(6)=1",
            FULL_SIZE + "h50,1,0;} tell(0,480)=0 tick(6)=6 tell(0,240)=480 tick(1)=0 count(6)=0 tell(0,241)=240 tick(1)=0 count(6)=1");
        Calls.hold(UP_RULE, TWO + "tell(0,10)=0 tick(1)=1 lock(0,1)=1 tick(1)=1 machine(1,6)=1 tick(1)=0 count(6)=1");
    }

    private static void upsAndWait() {
        for (int wait = 0; wait <= 9; wait++) {
            String rules = "r0,0,9,0;h50,1," + wait + ";} tell(0,20)=0 ";
            String waiting = wait == 0 ? "" : "tick(" + wait + ")=0 count(6)=" + wait + " ";
            Calls.hold(UP_RULE, "{" + C + C + rules + waiting + "tick(1)=1 count(6)=0 " + waiting + "tick(1)=1 count(6)=0");
        }
        String one = "{" + C + "r0,0,9,0;h50,1,2;} tell(0,20)=0 tick(3)=1 ";
        Calls.hold(UP_RULE, one + "tick(60)=0 count(6)=60 count(7)=0 lock(0,1)=1 count(6)=60 tick(2)=0 count(6)=62 lock(0,0)=0 tick(1)=1 count(6)=0",
            one + "tick(2)=0 count(6)=2 tell(0,0)=20 tick(1)=0 count(6)=0 tell(0,20)=0 tick(1)=0 count(6)=1");
        Calls.hold(UP_RULE, "{" + C + C + "r0,0,9,0;h50,99,5;} tell(0,20)=0 tick(12)=2 tick(3)=0 tell(0,1)=20 tick(3)=0 count(6)=0 count(7)=3"
            + " tell(0,20)=1 tick(1)=0 count(6)=1 count(7)=0");
    }

    private static void whoStarts() {
        String three = "{" + C + C + C + "r0,0,9,0;h50,1,0;} ";
        Calls.hold(UP_RULE, three + "tell(0,30)=0 tick(1)=1 machine(0,6)=1 tick(1)=1 machine(1,6)=1 machine(2,6)=0 tick(1)=1 machine(2,6)=1",
            three + "lock(0,1)=1 tell(0,5)=0 tick(1)=1 machine(1,6)=1 machine(2,6)=0",
            three + "tell(0,30)=0 tick(6)=3 lock(0,1)=1 lock(0,0)=0 lock(1,1)=1 lock(1,0)=0 lock(2,1)=1 lock(2,0)=0 machine(0,7)=5 machine(1,7)=4"
                + " machine(2,7)=3"
                + " tick(1)=1 machine(2,6)=1 tick(1)=1 machine(1,6)=1 tick(1)=1 machine(0,6)=1",
            three + "lock(0,1)=1 tell(0,30)=0 tick(2)=2 lock(0,0)=0 tick(4)=1 lock(0,1)=1 lock(0,0)=0 lock(1,1)=1 lock(1,0)=0 lock(2,1)=1 lock(2,0)=0"
                + " machine(0,7)=3 machine(1,7)=5 machine(2,7)=4 tick(1)=1 machine(0,6)=1 tick(1)=1 machine(2,6)=1 tick(1)=1 machine(1,6)=1",
            three + "tell(0,5)=0 tick(3)=1 machine(0,7)=2 lock(0,1)=1 lock(0,0)=0 tick(1)=1 machine(1,6)=1 tick(1)=0 lock(1,1)=1 lock(1,0)=0"
                + " machine(1,7)=1 tick(1)=1 machine(2,6)=1"
                + " tick(1)=0 lock(2,1)=1 lock(2,0)=0 machine(2,7)=1 tick(1)=1 machine(1,6)=1 tell(0,6)=5 tick(1)=1 machine(2,6)=1 tell(0,11)=6"
                + " tick(1)=1 machine(0,6)=1");
        Calls.hold(UP_RULE, "{" + C + C + "r0,9,9,0;h50,1,0;} tell(0,5)=0 tick(3)=1 lock(0,1)=1 lock(0,0)=0 tick(2)=1 machine(1,7)=1 lock(1,1)=1"
            + " lock(1,0)=0 tick(7)=0 machine(0,10)=1 machine(1,10)=0"
            + " tick(1)=1 machine(0,6)=1");
    }

    private static void down() {
        String both = "tell(0,20)=0 tick(9)=2 ";
        Calls.hold(DOWN_RULE, STOPPING + both + "tell(0,10)=20 tick(9)=0 count(1)=2 count(7)=0 tell(0,9)=10 tick(1)=0 count(1)=1", TWO + both
            + "tell(0,1)=20 tick(9)=0 count(1)=2 tell(0,0)=1 tick(1)=0 count(1)=1",
            STOPPING + both + "tell(0,0)=20 tick(1)=0 count(1)=1 tick(60)=0 count(1)=1 count(7)=0");
        String unlike = "{c1,40,1,1,0,1;c1,10,1,1,0,1;r0,0,9,0;h99,50,0;} tell(0,45)=0 tick(9)=2 ";
        Calls.hold(DOWN_RULE, unlike + "tell(0,19)=45 tick(5)=0 count(1)=2 tell(0,5)=19 tick(5)=0 count(1)=2 count(7)=0 tell(0,4)=5 tick(1)=0"
            + " machine(0,6)=0 machine(1,6)=2");
        String all = "tell(0,480)=0 tick(9)=6 ";
        Calls.hold(DOWN_RULE, FULL_SIZE + "h99,99,9;} tell(0,480)=0 tick(60)=6 tell(0,396)=480 tick(1)=0 count(7)=0 tell(0,395)=396 tick(1)=0"
            + " count(7)=1",
            FULL_SIZE + "h50,1,0;} " + all + "tell(0,4)=480 tick(1)=0 count(1)=6 tell(0,3)=4 tick(1)=0 count(1)=5 tick(1)=0 count(1)=4 tick(1)=0"
                + " count(1)=4");
        Calls.hold(DOWN_RULE, STOPPING + "tell(0,20)=0 tick(3)=2 tell(0,10)=20 tick(1)=0 machine(0,6)=2 count(7)=0",
            STOPPING + "tell(0,20)=0 tick(3)=2 tell(0,9)=20 tick(1)=0 machine(0,6)=0 machine(1,6)=1");
    }

    private static void downsAndWait() {
        for (int wait = 0; wait <= 9; wait++) {
            String rules = "r0,0,9,0;h50,99," + wait + ";} tell(0,30)=0 tick(40)=3 tell(0,1)=30 ";
            String waiting = wait == 0 ? "" : "tick(" + wait + ")=0 count(7)=" + wait + " ";
            Calls.hold(DOWN_RULE, "{" + C + C + C + rules + waiting + "count(1)=3 tick(1)=0 count(7)=0 count(1)=2 " + waiting + "count(1)=2"
                + " tick(1)=0 count(7)=0 count(1)=1 tick(20)=0 count(1)=1 count(7)=0");
        }
        String two = "{" + C + C + "r0,0,9,0;h50,99,5;} tell(0,20)=0 tick(15)=2 ";
        Calls.hold(DOWN_RULE, two + "count(6)=3 tell(0,9)=20 tick(1)=0 count(6)=0 count(7)=1 tick(4)=0 count(7)=5 tell(0,10)=9 tick(1)=0"
            + " count(7)=0 count(6)=0 tell(0,9)=10 tick(5)=0 count(1)=2 tick(1)=0 count(1)=1",
            "{" + C + C + C + "r0,0,9,0;h50,99,5;} tell(0,30)=0 tick(30)=3 tell(0,1)=30 tick(3)=0 count(7)=3 lock(2,1)=1 count(7)=3 tick(2)=0"
                + " count(7)=5 tick(1)=0 count(1)=1");
    }

    private static void neither() {
        String sentence = "else UPS and DOWNS are 0.";
        Calls.hold(sentence, "{" + C + C + "r0,0,9,0;h50,50,3;} tell(0,20)=0 tick(3)=0 count(6)=3 tell(0,0)=20 tick(1)=0 count(6)=0 count(7)=0",
            "{" + C + C + "r0,0,9,0;h50,50,3;} tell(0,20)=0 tick(12)=2 tell(0,4)=20 tick(3)=0 count(7)=3 tell(0,5)=4 tick(1)=0 count(7)=0"
                + " count(6)=0 tell(0,4)=5 tick(3)=0 count(1)=2 tick(1)=0 count(1)=1",
            "{" + C + C + "r9,0,9,0;h50,50,9;} tell(0,20)=0 tick(20)=2 tell(0,4)=20 tick(3)=0 count(7)=3 lock(0,1)=1 tick(1)=0 count(7)=0");
    }

    private static void gap() {
        for (int gap = 0; gap <= 9; gap++) {
            String two = "{" + C + C + "r0,0,9," + gap + ";h50,1,0;} tell(0,20)=0 machine(0,10)=1 machine(1,10)=1 tick(1)=1 ";
            String waiting = gap == 0 ? "" : (gap == 1 ? "" : "tick(" + (gap - 1) + ")=0 ") + "machine(1,10)=0 tick(1)=0 ";
            Calls.hold(GAP_RULE, two + waiting + "machine(1,10)=1 tick(1)=1", two + "dip()=1 " + waiting + "tick(1)=1 count(4)=0");
        }
        String nine = "{" + C + C + "r0,0,9,9;h50,1,0;} tell(0,20)=0 ";
        Calls.hold(GAP_RULE, nine + "tick(1)=1 lock(0,1)=1 tick(9)=0 machine(1,10)=1 tick(1)=1", nine + "tick(1)=1 undo()=1 machine(1,10)=1"
            + " tick(1)=1",
            nine + "tick(5)=1 undo()=1 tick(1)=1 tick(9)=0 tick(1)=1", nine + "tick(1)=1 dip()=1 lock(0,1)=1 lock(0,0)=0 machine(0,10)=0 tick(8)=0"
                + " machine(0,10)=0 tick(1)=0 machine(0,10)=1 tick(1)=1",
            nine + "tick(1)=1 dip()=1 tick(10)=1 machine(1,10)=0 tick(8)=0 machine(1,10)=0 tick(1)=0 machine(1,10)=1", nine + "tick(60)=2");
    }

    private static void rest() {
        for (int rest : new int[] {0, 1, 2, 9, 29, 30}) {
            String one = "{" + C + "r0," + rest + ",9,0;h50,1,0;} machine(0,10)=1 tell(0,10)=0 ";
            String waiting = rest == 0 ? "" : (rest == 1 ? "" : "tick(" + (rest - 1) + ")=0 ") + "machine(0,10)=0 tick(1)=0 ";
            String again = waiting + "machine(0,10)=1 tick(1)=1";
            Calls.hold(MAY_START, one + "tick(1)=1 lock(0,1)=1 lock(0,0)=0 " + again, one + "tick(7)=1 lock(0,1)=1 lock(0,0)=0 " + again,
                one + "tick(7)=1 dip()=1 lock(0,1)=1 lock(0,0)=0 " + again, one + "lock(0,1)=1 lock(0,0)=0 machine(0,10)=1 tick(1)=1");
        }
        Calls.hold(MAY_START, "{" + C + C + "r0,2,9,0;h50,99,0;} tell(0,20)=0 tick(5)=2 tell(0,5)=20 tick(1)=0 machine(0,6)=0 tell(0,6)=5"
            + " machine(0,10)=0 tick(1)=0 machine(0,10)=0 tick(1)=0 machine(0,10)=1 tick(1)=1");
    }

    /** STARTED in TICKS 1 to N: of the TICKS 1 to 60 these are N, of 2 to 61 one fewer. */
    private static void starts() {
        for (int starts = 1; starts <= 9; starts++) {
            String one = "{" + C + "r0,0," + starts + ",0;h50,1,0;} tell(0,10)=0 ";
            StringBuilder all = new StringBuilder(one);
            for (int k = 0; k < starts; k++) {
                all.append("machine(0,10)=1 tick(1)=1 lock(0,1)=1 lock(0,0)=0 ");
            }
            Calls.hold(MAY_START, all + "machine(0,10)=0 tick(" + (59 - starts) + ")=0 machine(0,10)=0 tick(1)=0 machine(0,10)=1 tick(1)=1"
                + " machine(0,8)=" + (starts + 1));
        }
        Calls.hold(MAY_START, "{" + C + "r0,0,1,0;h50,1,0;} tell(0,10)=0 tick(1)=1 dip()=1 tick(1)=1 lock(0,1)=1 lock(0,0)=0 tick(58)=0"
            + " machine(0,10)=0 tick(1)=0 machine(0,10)=1 tick(1)=1",
            "{" + C + "r0,0,1,0;h50,1,0;} tell(0,10)=0 tick(1)=1 undo()=1 machine(0,10)=1 tick(1)=1", "{" + C + C + "r0,0,1,0;h50,1,0;}"
                + " tell(0,10)=0 tick(1)=1 lock(0,1)=1 lock(0,0)=0 machine(1,10)=1 tick(1)=1 machine(1,6)=1");
    }

    private static void mayStartAsAsked() {
        String asked = "1 if it MAY START in the TICK that would come next, 0 (10)";
        Calls.hold(asked, ONE + "machine(0,10)=1 tell(0,10)=0 tick(1)=1 machine(0,10)=0 tick(3)=0 machine(0,10)=0 dip()=1 machine(0,10)=1"
            + " lock(0,1)=1 machine(0,10)=0 lock(0,0)=0 machine(0,10)=1",
            "{" + C + "r0,1,9,0;h50,1,0;} tell(0,10)=0 tick(4)=1 dip()=1 machine(0,10)=0", ONE + "166*tick(60)=0 tick(39)=0 machine(0,10)=1"
                + " tick(1)=NO");
    }

    /** The first is STARTED in TICK 1 and ON in TICK 4, the second a TICK later. */
    private static void run() {
        for (int run : new int[] {0, 2, 3, 4, 5, 29, 30}) {
            int first = Math.max(4, run + 2);
            String two = "{" + C + C + "r" + run + ",0,9,0;h50,99,0;} tell(0,20)=0 tick(2)=2 tell(0,9)=20 ";
            Calls.hold(MAY_STOP, two + "tick(" + (first - 3) + ")=0 count(1)=2 count(7)=0 tick(1)=0 machine(0,6)=0 count(1)=1");
        }
        Calls.hold(MAY_STOP, "{" + C + C + "r5,0,9,0;h50,99,0;} tell(0,20)=0 tick(10)=2 dip()=2 tick(2)=2 tell(0,9)=20 tick(4)=0 count(1)=2"
            + " tick(1)=0 machine(0,6)=0");
    }

    private static void whoStops() {
        Calls.hold(MAY_STOP, STOPPING + "tell(0,20)=0 tick(9)=2 machine(0,7)=8 machine(1,7)=7 tell(0,5)=20 tick(1)=0 machine(0,6)=0 machine(1,6)=2",
            STOPPING + "tell(0,20)=0 tick(2)=2 lock(0,1)=1 lock(0,0)=0 tick(4)=1 machine(0,7)=4 machine(1,7)=4 tell(0,5)=20 tick(1)=0"
                + " machine(0,6)=2 machine(1,6)=0",
            STOPPING + "tell(0,20)=0 tick(2)=2 lock(0,1)=1 tick(1)=0 lock(0,0)=0 tick(4)=1 machine(0,7)=4 machine(1,7)=5 tell(0,5)=20 tick(1)=0"
                + " machine(0,6)=2 machine(1,6)=0");
        Calls.hold(MAY_STOP, "{" + C + C + "r9,0,9,0;h50,99,0;} tell(0,5)=0 tick(10)=1 tell(0,20)=5 tick(11)=1 lock(0,1)=1 lock(0,0)=0 tick(5)=1"
            + " machine(0,6)=2 machine(0,7)=24 machine(1,7)=15"
            + " tell(0,5)=20 tick(1)=0 machine(0,6)=2 machine(1,6)=0");
        Calls.hold(MAY_STOP, STOPPING + "tell(0,5)=0 tick(20)=1 tell(0,20)=5 tick(4)=1 lock(0,1)=1 lock(0,0)=0 tick(1)=1 machine(1,6)=2"
            + " machine(0,6)=1 tell(0,5)=20 tick(1)=0 machine(1,6)=0 machine(0,6)=1");
    }
}
