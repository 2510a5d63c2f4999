/** The sentences of the document on DIP, LOCKED, AHEAD, changes and what is UNDONE, that name a boundary: promises 6 to 11 and 15 to 17. */
public final class EdgesOfChangesTest {
    private static final String C = "c1,10,5,10,0,3;";
    private static final String ONE = "{" + C + "r0,0,9,0;h50,1,0;} ";
    private static final String TWO = "{" + C + C + "r0,0,9,0;h50,1,0;} ";
    private static final String SIX = "{c1,10,1,1,1,1;c1,20,1,1,1,1;c1,30,1,1,1,1;c1,20,1,1,1,1;c1,10,1,1,1,1;c1,30,1,1,1,1;r0,0,9,0;h50,1,0;} ";
    private static final String DIP = "A DIP, between TICKS: all RUNNING ones are OFF (STOPPED in the TICK that was last); they come behind those"
        + " of the LIST, "
        + "the one of the greatest MOST first, of several the lowest; UPS, DOWNS are 0.";
    private static final String LOCKED = "LOCKED is a MACHINE: it is OFF then (STOPPED in the TICK that was last, if it was RUNNING), of the LIST"
        + " no more.";
    private static final String AHEAD = "AHEAD n TICKS (1 to 60): as they would go by (nothing changes by it).";
    private static final String CHANGE = "A change: LOAD, WATER, OUTSIDE, COLD told anew, one LOCKED or not, a DIP, TICKS. "
        + "UNDONE is the latest change (the last 4 can be; behind LAID none can be).";
    private static final String ABOVE_BEST =
        "POWER NOW less that of the BEST SET for LOAD (6; NONE: there is none, or it is SHORT or TOO MUCH now). BAD.";

    public static void main(String[] args) {
        tell();
        loadAndWater();
        lockAnswers();
        lockedOnes();
        dipStopsAll();
        dipList();
        dipCounts();
        tickAnswers();
        lastTicks();
        ahead();
        aheadShort();
        changesThatCanBeUndone();
        eachChangeUndone();
        restUndoneAndAhead();
        noChange();
        machineAnswers();
        asAsked();
        nowAndCountAnswers();
        Due.end();
    }

    private static void tell() {
        String sentence = "LOAD (what = 0; 0 to 480), WATER (1; 0 to 240), OUTSIDE (2; 0 to 45), COLD (3; 4 to 14): what it was. BAD; NO: it is so.";
        int[] least = {0, 0, 0, 4};
        int[] most = {480, 240, 45, 14};
        int[] first = {0, 0, 25, 7};
        for (int what = 0; what < 4; what++) {
            int low = least[what];
            int high = most[what];
            String asked = " count(" + (10 + what) + ")=";
            Calls.hold(sentence,
                told(what, high, first[what]) + asked + high + told(what, high, "NO") + told(what, high + 1, "BAD")
                    + told(what, high - 1, high) + told(what, low, high - 1) + asked + low + told(what, low, "NO")
                    + told(what, low - 1, "BAD") + told(what, low + 1, low) + asked + (low + 1) + " count(14)=4",
                told(what, first[what], "NO") + told(what, Integer.MIN_VALUE, "BAD") + told(what, Integer.MAX_VALUE, "BAD")
                    + told(what, -1, "BAD") + " count(14)=0");
        }
        Calls.hold(sentence, "tell(-1,5)=BAD tell(4,5)=BAD tell(-2147483648,5)=BAD tell(2147483647,5)=BAD tell(4,0)=BAD tell(-1,0)=BAD",
            "tell(0,10)=0 tell(1,10)=0 tell(2,10)=25 tell(3,10)=7 count(10)=10 count(11)=10 count(12)=10 count(13)=10 tell(0,10)=NO tell(1,10)=NO"
                + " tell(2,10)=NO tell(3,10)=NO",
            "tell(0,241)=0 tell(1,241)=BAD tell(2,46)=BAD tell(3,15)=BAD tell(3,3)=BAD", "tell(0,30)=0 undo()=0 tell(0,0)=NO tell(0,30)=0");
    }

    private static void loadAndWater() {
        Calls.hold("LOAD is 0 to 480, WATER 0 to 240 (how much is to flow).",
            "count(10)=0 tell(0,480)=0 tell(0,481)=BAD count(10)=480 tell(0,-1)=BAD tell(0,0)=480 count(10)=0",
            "count(11)=0 tell(1,240)=0 tell(1,241)=BAD count(11)=240 tell(1,-1)=BAD tell(1,0)=240 count(11)=0");
    }

    private static String told(int what, int v, Object answer) {
        return " tell(" + what + "," + v + ")=" + answer;
    }

    private static void lockAnswers() {
        String sentence = "A MACHINE is LOCKED (is = 1) or not (0): how many are LOCKED then. BAD; NO: it is so.";
        Calls.hold(sentence, "lock(-1,1)=BAD lock(4,1)=BAD lock(5,0)=BAD lock(0,-1)=BAD lock(0,2)=BAD lock(32,1)=BAD lock(-2147483648,1)=BAD"
            + " lock(2147483647,1)=BAD lock(0,-2147483648)=BAD lock(0,2147483647)=BAD"
                + " lock(0,0)=NO lock(3,0)=NO lock(4,0)=BAD count(3)=0",
            "lock(0,1)=1 lock(0,1)=NO lock(0,2)=BAD lock(1,1)=2 lock(2,1)=3 lock(3,1)=4 lock(3,1)=NO lock(4,1)=BAD count(3)=4 lock(0,0)=3"
                + " lock(0,0)=NO lock(3,0)=2 machine(0,9)=0 machine(1,9)=1 machine(2,9)=1 machine(3,9)=0",
            SIX + "lock(5,1)=1 lock(6,1)=BAD machine(5,9)=1 lock(5,1)=NO lock(5,0)=0 lock(5,0)=NO", "lock(2,1)=1 undo()=0 lock(2,0)=NO lock(2,1)=1");
    }

    private static void lockedOnes() {
        Calls.hold(LOCKED, ONE + "tell(0,10)=0 tick(4)=1 now(0)=10 lock(0,1)=1 machine(0,6)=0 now(0)=0 now(1)=10 machine(0,7)=3 machine(0,8)=1"
            + " tick(9)=0 machine(0,7)=3 machine(0,10)=0 count(6)=12",
            ONE + "tell(0,10)=0 tick(2)=1 machine(0,6)=1 lock(0,1)=1 machine(0,6)=0 lock(0,0)=0 machine(0,6)=0",
            "{" + C + "r0,30,9,0;h50,1,0;} lock(0,1)=1 lock(0,0)=0 machine(0,10)=1 tick(3)=0 lock(0,1)=1 lock(0,0)=0 machine(0,10)=1 tell(0,1)=0"
                + " tick(1)=1",
            "{" + C + "r0,2,9,0;h50,1,0;} tell(0,10)=0 tick(4)=1 lock(0,1)=1 tick(1)=0 lock(0,0)=0 tick(1)=0 machine(0,10)=1 lock(0,1)=1"
                + " lock(0,0)=0 machine(0,10)=1 tick(1)=1");
        Calls.hold(LOCKED, SIX + "tell(0,480)=0 tick(6)=6 dip()=6 lock(2,1)=1 machine(2,12)=NONE machine(5,12)=0 machine(1,12)=1 machine(3,12)=2"
            + " machine(0,12)=3 machine(4,12)=4 count(4)=5"
                + " lock(4,1)=2 machine(4,12)=NONE machine(0,12)=3 count(4)=4 lock(1,1)=3 machine(3,12)=1 machine(0,12)=2 lock(1,0)=2"
                + " machine(1,12)=NONE count(4)=3",
            ONE + "tell(0,10)=0 tick(1)=1 dip()=1 count(4)=1 lock(0,1)=1 count(4)=0 lock(0,0)=0 count(4)=0 machine(0,12)=NONE");
        Calls.hold(LOCKED, "{" + C + C + "r0,9,9,5;h50,1,0;} lock(1,1)=1 tell(0,10)=0 tick(2)=1 dip()=1 tick(2)=0 lock(0,1)=2 lock(0,0)=1"
            + " tick(6)=0 machine(0,10)=0 tick(1)=0 machine(0,10)=1 tick(1)=1",
            "{" + C + "r0,0,9,0;h50,1,9;} tell(0,10)=0 tick(4)=0 lock(0,1)=1 count(6)=4 lock(0,0)=0 count(6)=4 tick(5)=0 tick(1)=1");
    }

    private static void dipStopsAll() {
        Calls.hold("A DIP: how many were RUNNING.", "dip()=0 count(4)=0 count(14)=1", ONE + "tell(0,10)=0 tick(1)=1 dip()=1 dip()=0 count(4)=1"
            + " count(14)=4", ONE + "tell(0,10)=0 tick(4)=1 dip()=1 count(1)=0",
            TWO + "tell(0,20)=0 tick(4)=2 machine(0,6)=2 machine(1,6)=1 dip()=2 machine(0,6)=0 machine(1,6)=0 count(1)=0 count(2)=0 now(0)=0"
                + " now(3)=0 now(4)=0", SIX + "tell(0,480)=0 tick(9)=6 dip()=6 tick(3)=3 dip()=3 count(4)=6");
        Calls.hold(DIP, "{" + C + "r0,9,9,0;h50,1,0;} tell(0,10)=0 tick(4)=1 dip()=1 lock(0,1)=1 lock(0,0)=0 tick(8)=0 machine(0,10)=0 tick(1)=0"
            + " machine(0,10)=1 tick(1)=1",
            "{" + C + "r0,9,9,0;h50,1,0;} tell(0,10)=0 tick(4)=1 lock(0,1)=1 tick(3)=0 dip()=0 lock(0,0)=0 tick(5)=0 machine(0,10)=0 tick(1)=0"
                + " machine(0,10)=1");
    }

    private static void dipList() {
        Calls.hold(DIP, SIX + "tell(0,480)=0 tick(6)=6 dip()=6 machine(2,12)=0 machine(5,12)=1 machine(1,12)=2 machine(3,12)=3 machine(0,12)=4"
            + " machine(4,12)=5"
                + " tick(2)=2 machine(2,12)=NONE machine(5,12)=NONE machine(1,12)=0 machine(4,12)=3 dip()=2 machine(1,12)=0 machine(3,12)=1"
                + " machine(0,12)=2 machine(4,12)=3 machine(2,12)=4 machine(5,12)=5 count(4)=6",
            SIX + "tell(0,480)=0 tick(6)=6 dip()=6 dip()=0 machine(2,12)=0 machine(4,12)=5 count(4)=6 tick(6)=6 count(4)=0 count(1)=6",
            "{c1,10,1,1,1,1;c1,11,1,1,1,1;r0,0,9,0;h50,1,0;} tell(0,30)=0 tick(2)=2 dip()=2 machine(0,12)=1 machine(1,12)=0 tick(1)=1"
                + " machine(1,6)=1 dip()=1 machine(0,12)=0 machine(1,12)=1",
            "{c1,80,1,1,1,1;c1,80,1,1,1,1;r0,0,9,0;h50,1,0;} tell(0,160)=0 tick(2)=2 dip()=2 machine(0,12)=0 machine(1,12)=1");
        Calls.hold(DIP, "{c1,1,1,1,1,1;c1,1,1,1,1,1;c1,2,1,1,1,1;r0,0,9,0;h50,1,0;} lock(0,1)=1 tell(0,9)=0 tick(2)=2 dip()=2 machine(2,12)=0"
            + " machine(1,12)=1 machine(0,12)=NONE count(4)=2 tick(2)=2 machine(0,6)=0 machine(1,6)=1 machine(2,6)=1",
            "{c1,1,1,1,1,1;c1,1,1,1,1,1;r0,0,9,0;h50,1,0;} lock(0,1)=1 tell(0,9)=0 tick(1)=1 dip()=1 machine(1,12)=0 machine(0,12)=NONE count(4)=1");
        Calls.hold("its place in the LIST (12; 0 the first; NONE). BAD.", TWO + "machine(0,12)=NONE tell(0,10)=0 tick(1)=1 machine(0,12)=NONE"
            + " dip()=1 machine(0,12)=0 machine(1,12)=NONE tick(1)=1 machine(0,12)=NONE");
    }

    private static void dipCounts() {
        Calls.hold(DIP, "{" + C + "r0,0,9,0;h50,1,9;} tell(0,10)=0 tick(9)=0 count(6)=9 dip()=0 count(6)=0 tick(9)=0 count(6)=9 tick(1)=1",
            "{" + C + C + "r0,0,9,0;h50,99,5;} tell(0,20)=0 tick(15)=2 tell(0,1)=20 tick(5)=0 count(7)=5 dip()=2 count(7)=0 count(6)=0",
            "{" + C + C + "r0,0,9,0;h50,1,5;} tell(0,20)=0 tick(15)=2 count(6)=3 dip()=2 count(6)=0 tick(2)=2 count(6)=0 tick(1)=0 count(6)=1");
    }

    private static void tickAnswers() {
        Calls.hold("n TICKS (1 to 60) go by: how many were STARTED in them. BAD; NO: there would be more than 9999.",
            TWO + "tick(0)=BAD tick(-1)=BAD tick(61)=BAD tick(-2147483648)=BAD tick(2147483647)=BAD count(5)=0 tick(1)=0 count(5)=1 tick(60)=0"
                + " count(5)=61 count(14)=2",
            TWO + "tell(0,20)=0 tick(60)=2 count(8)=2 dip()=2 tick(60)=2 count(8)=4 tick(1)=0", SIX + "tell(0,480)=0 tick(5)=5 tick(60)=1"
                + " count(8)=6");
    }

    private static void lastTicks() {
        String sentence = "NO: there would be more than 9999.";
        String late = ONE + "166*tick(60)=0 count(5)=9960 ";
        Calls.hold(sentence, late + "tick(40)=NO tick(60)=NO tick(61)=BAD tick(0)=BAD tick(39)=0 count(5)=9999 tick(1)=NO tick(60)=NO tick(61)=BAD"
            + " tick(0)=BAD undo()=3 tick(39)=0 tick(1)=NO",
            late + "tick(38)=0 tick(2)=NO tick(1)=0 tick(1)=NO undo()=3 count(5)=9998 tick(2)=NO tick(1)=0");
        Calls.hold(AHEAD, late + "tick(39)=0 tell(0,10)=0 ahead(1,1)=1 ahead(60,0)=1 ahead(60,2)=4648 ahead(60,3)=3 tick(1)=NO count(5)=9999"
            + " dip()=0 lock(0,1)=1 ahead(60,1)=0");
    }

    private static void ahead() {
        Calls.hold(AHEAD, TWO + "tell(0,20)=0 ahead(0,0)=BAD ahead(-1,0)=BAD ahead(61,0)=BAD ahead(60,0)=2 ahead(1,0)=1 ahead(1,1)=1 ahead(2,1)=2"
            + " ahead(60,1)=2 ahead(1,-1)=BAD ahead(1,4)=BAD ahead(61,4)=BAD"
                + " ahead(4,2)=0 ahead(5,2)=83 ahead(6,2)=249 ahead(2147483647,0)=BAD ahead(-2147483648,0)=BAD ahead(1,2147483647)=BAD"
                + " ahead(1,-2147483648)=BAD count(5)=0 count(14)=1",
            TWO + "tell(0,20)=0 tick(6)=2 count(9)=249 ahead(1,2)=166 ahead(60,2)=9960 ahead(60,1)=0 ahead(60,0)=2 count(9)=249",
            TWO + "tell(0,20)=0 tick(6)=2 dip()=2 ahead(1,0)=1 ahead(1,1)=1 ahead(2,0)=2 ahead(3,3)=3 ahead(4,3)=4 ahead(5,3)=4 ahead(60,3)=4"
                + " count(4)=2 count(1)=0");
        String scene = "tell(0,150)=0 tick(7)=2 dip()=2 tick(2)=1 ";
        Calls.same(AHEAD, scene, scene + "ahead(1,0)=2 ahead(2,0)=2 ahead(60,0)=4 ahead(60,1)=3");
    }

    private static void aheadShort() {
        String sentence = "AHEAD n TICKS: how many are RUNNING then (what = 0), STARTED in them (1), ENERGY in them (2), "
            + "behind how many of them it was SHORT (3). BAD.";
        Calls.hold(sentence, ONE + "ahead(60,3)=0 tell(0,10)=0 ahead(1,3)=1 ahead(3,3)=3 ahead(4,3)=3 ahead(60,3)=3 tell(0,11)=10 ahead(60,3)=60",
            ONE + "tell(0,10)=0 tick(3)=1 now(1)=10 ahead(1,3)=0 tick(1)=0 now(1)=0 ahead(60,3)=0 tell(0,0)=10 now(2)=1 ahead(60,3)=0 tell(0,11)=0"
                + " ahead(1,3)=1",
            "{" + C + C + "r0,0,9,0;h50,99,0;} tell(0,20)=0 tick(5)=2 now(1)=0 tell(0,9)=20 ahead(1,3)=0 ahead(1,0)=1 ahead(2,0)=2 ahead(2,1)=1");
    }

    private static void changesThatCanBeUndone() {
        Calls.hold(CHANGE, "undo()=NO count(14)=0 tell(0,1)=0 count(14)=1 tell(0,2)=1 count(14)=2 tell(0,3)=2 count(14)=3 tell(0,4)=3 count(14)=4"
            + " tell(0,5)=4 count(14)=4 tell(0,6)=5 count(14)=4"
                + " undo()=3 count(10)=5 undo()=2 count(10)=4 undo()=1 count(10)=3 undo()=0 count(10)=2 count(14)=0 undo()=NO count(10)=2",
            "tell(0,1)=0 tell(0,2)=1 undo()=1 tell(0,3)=1 tell(0,4)=3 tell(0,5)=4 tell(0,6)=5 undo()=3 undo()=2 tell(0,7)=4 undo()=2 count(10)=4"
                + " undo()=1 count(10)=3 undo()=0 count(10)=1 undo()=NO",
            "tell(0,1)=0 tell(0,2)=1 tell(0,3)=2 tell(0,4)=3 undo()=3 undo()=2 undo()=1 undo()=0 count(10)=0 undo()=NO tell(0,9)=0 undo()=0"
                + " count(10)=0 undo()=NO",
            ONE + "tell(0,1)=0 tick(60)=1 tick(60)=0 count(14)=3 undo()=2 count(5)=60 undo()=1 count(5)=0 undo()=0 count(10)=0");
        Calls.hold(CHANGE, ONE + "undo()=NO tell(0,1)=0 tell(0,2)=1 lay()=1 undo()=NO count(14)=0 tell(0,3)=0 undo()=0 undo()=NO count(10)=0");
        Calls.hold("UNDONE: how many more can be. NO.", "undo()=NO undo()=NO tell(3,4)=7 undo()=0 undo()=NO count(13)=7");
    }

    /** The first is STOPPED in TICK 4 and MAY START in TICK 14. */
    private static final String RESTING = "{" + C + C + "r0,9,3,0;h50,99,0;} tell(0,9)=0 tick(5)=2 tell(0,10)=9 ";

    private static void restUndoneAndAhead() {
        Calls.hold(CHANGE, RESTING + "tick(8)=0 machine(0,10)=1 tick(1)=1 undo()=3 machine(0,10)=1 undo()=2 machine(0,10)=0 tick(7)=0"
            + " machine(0,10)=0 tick(1)=0 machine(0,10)=1 tick(1)=1", RESTING + "undo()=2 undo()=1 machine(0,10)=1 tick(3)=2 machine(0,6)=1");
        Calls.hold(AHEAD, RESTING + "ahead(8,1)=0 ahead(8,0)=1 ahead(9,1)=1 ahead(9,0)=2 ahead(60,1)=1 machine(0,10)=0",
            "{" + C + "r0,0,1,0;h50,1,0;} tell(0,10)=0 tick(1)=1 lock(0,1)=1 lock(0,0)=0 ahead(59,1)=0 ahead(60,1)=1");
    }

    private static void eachChangeUndone() {
        String[] scenes = {ONE, TWO + "tell(0,20)=0 tick(7)=2 ", SIX + "tell(0,480)=0 tick(7)=6 dip()=6 ", "{" + C + C + C + "r5,3,1,1;h90,60,2;}"
            + " tell(0,20)=0 tick(8)=2 lock(0,1)=1 ", RESTING};
        int[] held = {0, 2, 3, 3, 3};
        int[][] answers = {{0, 0, 0, 0}, {20, 2, 0, 1}, {480, 0, 6, 1}, {20, 1, 1, 2}, {10, 1, 1, 1}};
        for (int k = 0; k < scenes.length; k++) {
            String undo = " undo()=" + held[k] + " ";
            Calls.same(CHANGE, scenes[k], scenes[k] + "tell(0,479)=" + answers[k][0] + undo);
            Calls.same(CHANGE, scenes[k], scenes[k] + "tell(1,240)=0" + undo);
            Calls.same(CHANGE, scenes[k], scenes[k] + "tell(2,0)=25" + undo);
            Calls.same(CHANGE, scenes[k], scenes[k] + "tell(3,14)=7" + undo);
            Calls.same(CHANGE, scenes[k], scenes[k] + "dip()=" + answers[k][1] + undo);
            Calls.same(CHANGE, scenes[k], scenes[k] + "tick(60)=" + answers[k][2] + undo);
            int last = k == 0 ? 0 : 1;
            Calls.same(CHANGE, scenes[k], scenes[k] + "lock(" + last + ",1)=" + Math.max(1, answers[k][3]) + undo);
        }
        Calls.same(CHANGE, scenes[3], scenes[3] + "lock(0,0)=0 undo()=3 ");
        String downs = "{" + C + C + "r0,0,9,0;h50,99,9;} tell(0,9)=0 tick(29)=2 count(7)=9 ";
        Calls.same(CHANGE, downs, downs + "ahead(1,0)=1 tick(1)=0 count(1)=1 count(7)=0 undo()=2 count(7)=9");
        Calls.same(CHANGE, downs, downs + "dip()=2 count(7)=0 undo()=2 count(7)=9");
    }

    private static void noChange() {
        Calls.hold(CHANGE, "'ab' wipe()=2 fault()=NONE lay()=NO count(14)=0 undo()=NO", "tell(0,1)=0 'ab' undo()=0 count(15)=2 wipe()=2",
            "tell(0,1)=0 tell(0,1)=NO tell(0,481)=BAD lock(0,0)=NO lock(9,0)=BAD tick(0)=BAD count(14)=1 undo()=0 undo()=NO",
            "tell(0,30)=0 machine(0,10)=1 power(0,1,1)=25 share(1,10,0)=10 best(10,0)=2 now(1)=30 ahead(60,1)=1 count(5)=0 count(14)=1");
    }

    private static void machineAnswers() {
        String sentence = "its place in the LIST (12; 0 the first; NONE). BAD.";
        StringBuilder run = new StringBuilder(SIX);
        for (int m : new int[] {-2147483648, -1, 6, 7, 32, 2147483647}) {
            for (int what : new int[] {-1, 0, 12, 13}) {
                run.append("machine(").append(m).append(',').append(what).append(")=BAD ");
            }
        }
        Calls.hold(sentence, run.toString(), SIX + "machine(0,-1)=BAD machine(0,13)=BAD machine(5,-1)=BAD machine(5,13)=BAD"
            + " machine(0,2147483647)=BAD machine(0,-2147483648)=BAD machine(5,0)=1 machine(5,12)=NONE",
            ONE + "machine(0,0)=1 machine(1,0)=BAD machine(1,12)=BAD");
    }

    /** Each number that can be asked for is another one, as far as it can be. */
    private static final String UNLIKE = "{c2,11,3,4,5,6;c7,12,8,9,10,13;c1,10,1,1,1,1;r0,0,9,1;h50,1,0;} tell(0,30)=0 tick(9)=3 dip()=3 tick(6)=3"
        + " lock(2,1)=1 ";

    private static void asAsked() {
        Calls.hold("Of a MACHINE: LEAST (what = 0), MOST (1), BASE (2), SLOPE (3), CURVE (4), FLOW (5), 0 OFF, 1 STARTING, 2 ON (6), HOURS (7), "
            + "how often it was STARTED (8), 1 if LOCKED (9),",
            UNLIKE + "machine(0,0)=2 machine(0,1)=11 machine(0,2)=3 machine(0,3)=4 machine(0,4)=5 machine(0,5)=6 machine(0,6)=2 machine(0,7)=11"
                + " machine(0,8)=2"
                + " machine(0,9)=0 machine(0,10)=0 machine(0,11)=11 machine(0,12)=NONE machine(1,6)=2 machine(1,7)=11 machine(2,6)=0"
                + " machine(2,7)=5 machine(2,8)=2"
                + " machine(2,9)=1 machine(2,10)=0 machine(2,11)=0");
        Calls.hold("How many: 0 MACHINES, 1 RUNNING, 2 ON, 3 LOCKED, 4 in the LIST, 5 TICKS, 6 UPS, 7 DOWNS, 8 STARTED so far, 9 ENERGY, 10 LOAD,"
            + " 11 WATER, "
            + "12 OUTSIDE, 13 COLD, 14 changes that can be UNDONE, 15 letters of THE TEXT. BAD.",
            UNLIKE + "tell(1,99)=0 tell(3,8)=7 count(0)=3 count(1)=2 count(2)=2 count(3)=1 count(4)=0 count(5)=15 count(6)=1 count(7)=0 count(8)=6"
                + " count(10)=30"
                + " count(11)=99 count(12)=25 count(13)=8 count(14)=4 count(15)=61 dip()=2 count(4)=2 count(1)=0 count(2)=0");
        Calls.hold("What all make now (what = 0), SHORT (1), TOO MUCH (2), POWER NOW (3), ROUND (4), LIFT (5),",
            UNLIKE + "now(0)=23 now(1)=7 now(2)=0 now(4)=19 now(5)=18 now(6)=NONE tell(0,4)=30 now(0)=9 now(1)=0 now(2)=5");
    }

    private static void nowAndCountAnswers() {
        Calls.hold(ABOVE_BEST, "now(-1)=BAD now(7)=BAD now(2147483647)=BAD"
            + " now(-2147483648)=BAD now(0)=0 now(6)=0",
            "tell(0,4)=0 now(6)=NONE tell(0,161)=4 now(6)=NONE now(7)=BAD");
        Calls.hold("14 changes that can be UNDONE, 15 letters of THE TEXT. BAD.", "count(-1)=BAD count(16)=BAD count(2147483647)=BAD"
            + " count(-2147483648)=BAD count(0)=4 count(15)=0");
    }
}
