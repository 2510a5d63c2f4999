/** The sentences of the document on POWER, LIFT, BEST SHARE and BEST SET that name a boundary: promises 12 to 14. */
public final class EdgesOfPowerTest {
    private static final String LOAD_OF_POWER =
        "POWER of a MACHINE at a load x (0 to 99) by a LIFT f: BASE, and (100 times SLOPE times x, and CURVE times x times x, together, times (60"
            + " and f)) by 10000, cut.";
    private static final String LIFT = "LIFT is OUTSIDE (0 to 45) less COLD (4 to 14), 0 at least.";
    private static final String CAN =
        "A SET of MACHINES CAN make a load, if all LEASTS of it together are no more than that, all MOSTS together no less.";
    private static final String BEST_SHARE = "By the BEST SHARE each makes a load from LEAST to MOST, together that one, so that POWER of all"
        + " together is least, "
        + "of several the first (by the lowest MACHINE of the SET, the less ahead, then by the next, ..).";
    private static final String EMPTY_SET = "(The empty SET CAN make 0, by POWER 0.)";
    private static final String BEST_SET = "BEST SET for a load: of all SETS without LOCKED ones that CAN, that of the least POWER (by the BEST"
        + " SHARE), "
        + "of several that of the fewest MACHINES, of several the least as bits.";
    private static final String POWER_CALL = "POWER of a MACHINE at a load (0 to 99) by a LIFT (0 to 45). BAD.";
    private static final String SHARE_CALL = "BEST SHARE of a load (0 to 480) by a SET (bits), LIFT as it is now: POWER (m = -1), what a MACHINE"
        + " makes (0: not of the SET). "
        + "BAD; NONE: the SET can not make it.";
    private static final String BEST_CALL = "BEST SET for a load (0 to 480), LIFT as it is now: it, as bits (what = 0), POWER (1). BAD; NONE.";
    private static final String ABOVE_BEST =
        "POWER NOW less that of the BEST SET for LOAD (6; NONE: there is none, or it is SHORT or TOO MUCH now). BAD.";

    public static void main(String[] args) {
        powerBounds();
        powerIsCut();
        lift();
        liftAsItIsNow();
        can();
        emptySet();
        firstOfSeveralShares();
        fromLeastToMost();
        oneDearOfSix();
        shareBounds();
        bestSetOfSeveral();
        bestSetWithoutLocked();
        bestBounds();
        Due.end();
    }

    private static void powerBounds() {
        Calls.hold(POWER_CALL, "power(0,0,0)=20 power(0,99,0)=2318 power(0,-1,0)=BAD power(0,100,0)=BAD power(0,0,45)=20 power(0,99,45)=4042"
            + " power(0,0,-1)=BAD"
            + " power(0,0,46)=BAD power(3,0,0)=40 power(4,0,0)=BAD power(-1,0,0)=BAD power(5,100,46)=BAD",
            "{c1,80,99,99,99,1;} power(0,99,45)=20578 power(0,0,45)=99 power(1,0,0)=BAD power(0,-2147483648,0)=BAD power(0,2147483647,0)=BAD"
            + " power(0,0,-2147483648)=BAD power(0,0,2147483647)=BAD power(-2147483648,0,0)=BAD power(2147483647,0,0)=BAD power(32,0,0)=BAD",
            "{" + "c1,80,7,0,0,1;".repeat(6) + "} power(5,99,45)=7 power(6,0,0)=BAD");
        Calls.hold(POWER_CALL, "{c40,50,5,10,0,1;} power(0,39,0)=239 power(0,51,0)=311 power(0,1,0)=11");
        Calls.hold(POWER_CALL, "lock(0,1)=1 power(0,10,18)=113 tell(2,45)=25 power(0,10,18)=113");
    }

    /** 9900 by 10000 is 0, 10000 by 10000 is 1; 100 times 63 and 60 times 63 are below 10000 each, together not. */
    private static void powerIsCut() {
        Calls.hold(LOAD_OF_POWER, "{c1,80,0,1,0,1;} power(0,1,39)=0 power(0,1,40)=1 power(0,2,39)=1 power(0,2,40)=2",
            "{c1,80,0,0,1,1;} power(0,10,39)=0 power(0,10,40)=1 power(0,9,45)=0 power(0,99,0)=58",
            "{c1,80,0,1,60,1;} power(0,1,2)=0 power(0,1,3)=1", "{c1,80,99,0,0,1;} power(0,0,0)=99 power(0,99,45)=99",
            "{c1,80,3,1,0,1;} power(0,1,39)=3 power(0,1,40)=4 power(0,0,45)=3");
    }

    private static void lift() {
        Calls.hold(LIFT, "now(5)=18 tell(2,45)=25 now(5)=38 tell(3,4)=7 now(5)=41 tell(3,14)=4 now(5)=31",
            "tell(2,8)=25 now(5)=1 tell(2,7)=8 now(5)=0 tell(2,6)=7 now(5)=0 tell(2,0)=6 now(5)=0 tell(3,14)=7 now(5)=0 tell(3,4)=14 now(5)=0",
            "tell(2,14)=25 tell(3,14)=7 now(5)=0 tell(2,15)=14 now(5)=1 tell(3,13)=14 now(5)=2");
    }

    /** POWER is 5 and 10 times (60 and LIFT) by 10: 83 by 18, 106 by 41, 65 by 0. */
    private static void liftAsItIsNow() {
        String one = "{c1,10,5,10,0,3;h50,1,0;}";
        Calls.hold(SHARE_CALL, one + " share(1,10,-1)=83 tell(2,45)=25 tell(3,4)=7 share(1,10,-1)=106 tell(2,4)=45 share(1,10,-1)=65 tell(2,0)=4"
            + " share(1,10,-1)=65"
            + " undo()=3 undo()=2 share(1,10,-1)=106 undo()=1 undo()=0 share(1,10,-1)=83");
        Calls.hold(BEST_CALL, one + " best(10,1)=83 tell(2,45)=25 tell(3,4)=7 best(10,1)=106 tell(2,4)=45 best(10,1)=65 tell(2,0)=4 best(10,1)=65"
            + " undo()=3 undo()=2 best(10,1)=106 undo()=1 undo()=0 best(10,1)=83");
        Calls.hold("POWER NOW: of all that are ON at what they make, together.",
            one + " tell(0,10)=0 tick(4)=1 now(3)=83 tell(2,45)=25 now(3)=103 tell(3,4)=7 now(3)=106 tell(2,0)=45 now(3)=65 undo()=3 now(3)=106");
    }

    private static void can() {
        Calls.hold(CAN, "share(1,9,-1)=NONE share(1,10,-1)=113 share(1,40,-1)=675 share(1,41,-1)=NONE",
            "share(5,14,0)=NONE share(5,14,-1)=NONE share(5,15,0)=10 share(5,15,2)=5 share(5,60,0)=40 share(5,60,2)=20 share(5,61,-1)=NONE"
                + " share(5,61,2)=NONE",
            "share(15,44,-1)=NONE share(15,45,3)=20 share(15,160,3)=60 share(15,161,3)=NONE share(15,480,3)=NONE",
            "share(5,14,1)=NONE share(5,61,3)=NONE share(5,15,1)=0 share(5,60,3)=0");
        String wide = "{" + "c1,80,1,1,1,1;".repeat(6) + "}";
        Calls.hold(CAN, wide + " share(63,5,0)=NONE share(63,6,0)=1 share(63,480,0)=80 share(63,479,0)=79 share(63,479,5)=80 share(31,401,0)=NONE"
            + " share(31,400,4)=80"
            + " share(32,80,5)=80 share(32,81,5)=NONE share(32,0,5)=NONE",
            "{c7,7,1,1,1,1;} share(1,6,0)=NONE share(1,7,0)=7 share(1,8,0)=NONE best(6,0)=NONE best(7,0)=1 best(8,0)=NONE");
        Calls.hold(CAN, "best(4,0)=NONE best(5,0)=4 best(160,0)=15 best(161,0)=NONE best(161,1)=NONE best(480,0)=NONE");
        Calls.hold(CAN, "{c10,12,1,1,1,1;c10,12,1,1,1,1;} best(9,0)=NONE best(10,0)=1 best(12,0)=1 best(13,0)=NONE best(19,0)=NONE best(20,0)=3"
            + " best(24,0)=3 best(25,0)=NONE");
    }

    private static void emptySet() {
        Calls.hold(EMPTY_SET, "share(0,0,-1)=0 share(0,0,0)=0 share(0,0,3)=0 share(0,1,-1)=NONE share(0,1,0)=NONE share(0,480,-1)=NONE"
            + " share(0,0,4)=BAD",
            "best(0,0)=0 best(0,1)=0 lock(0,1)=1 lock(1,1)=2 lock(2,1)=3 lock(3,1)=4 best(0,0)=0 best(0,1)=0 best(1,0)=NONE best(40,1)=NONE",
            "{c1,80,0,0,0,1;} best(0,0)=0 best(1,0)=1 best(1,1)=0 share(1,0,-1)=NONE");
    }

    /** By LIFT 40 a load of 1 takes 10 whoever makes it, so each share takes the same. */
    private static void firstOfSeveralShares() {
        String flat = "{c5,30,1,10,0,1;c2,10,1,10,0,1;c3,20,1,10,0,1;} tell(2,44)=25 tell(3,4)=7 ";
        Calls.hold(BEST_SHARE, flat + "share(7,10,0)=5 share(7,10,1)=2 share(7,10,2)=3 share(7,10,-1)=103",
            flat + "share(7,27,0)=5 share(7,27,1)=2 share(7,27,2)=20 share(7,27,-1)=273",
            flat + "share(7,28,0)=5 share(7,28,1)=3 share(7,28,2)=20", flat + "share(7,35,0)=5 share(7,35,1)=10 share(7,35,2)=20",
            flat + "share(7,36,0)=6 share(7,36,1)=10 share(7,36,2)=20", flat + "share(7,60,0)=30 share(7,60,1)=10 share(7,60,2)=20"
                + " share(7,60,-1)=603",
            flat + "share(6,20,0)=0 share(6,20,1)=2 share(6,20,2)=18", flat + "share(5,26,0)=6 share(5,26,1)=0 share(5,26,2)=20",
            flat + "share(3,20,0)=10 share(3,20,1)=10 share(3,20,2)=0");
        Calls.hold(BEST_SHARE, "{" + "c1,80,0,0,0,1;".repeat(6) + "} share(63,100,0)=1 share(63,100,3)=1 share(63,100,4)=16 share(63,100,5)=80"
            + " share(63,100,-1)=0");
    }

    /** The second is so dear that it makes its LEAST, the first what is left, to its MOST; then the second has to make more. */
    private static void fromLeastToMost() {
        String dear = "{c3,10,0,1,0,1;c4,20,0,99,99,1;} ";
        Calls.hold(BEST_SHARE, dear + "share(3,7,0)=3 share(3,7,1)=4 share(3,8,0)=4 share(3,8,1)=4 share(3,14,0)=10 share(3,14,1)=4"
            + " share(3,15,0)=10 share(3,15,1)=5"
            + " share(3,30,0)=10 share(3,30,1)=20 share(3,31,0)=NONE share(3,6,0)=NONE");
        Calls.hold(BEST_SHARE, "{c4,20,0,99,99,1;c3,10,0,1,0,1;} share(3,7,0)=4 share(3,7,1)=3 share(3,14,0)=4 share(3,14,1)=10 share(3,15,0)=5"
            + " share(3,15,1)=10");
    }

    /** One of six is dear, each once: it makes its LEAST as long as the others have not come to their MOST. */
    private static void oneDearOfSix() {
        for (int dear = 0; dear < 6; dear++) {
            StringBuilder text = new StringBuilder("{");
            for (int m = 0; m < 6; m++) {
                text.append(m == dear ? "c2,80,0,99,99,1;" : "c1,10,0,10,0,1;");
            }
            for (int load : new int[] {7, 51, 52, 53, 70, 129, 130}) {
                StringBuilder run = new StringBuilder(text).append("} share(63,").append(load).append(',').append(dear).append(")=")
                    .append(Math.max(2, load - 50));
                for (int m = 0; m < 6 && (load == 7 || load >= 52); m++) {
                    run.append(m == dear ? "" : " share(63," + load + "," + m + ")=" + (load == 7 ? 1 : 10));
                }
                Calls.hold(BEST_SHARE, run.toString());
            }
            Calls.hold(CAN, text + "} share(63,6,0)=NONE share(63,131,0)=NONE");
        }
    }

    private static void shareBounds() {
        Calls.hold(SHARE_CALL, "share(-1,30,-1)=BAD share(16,30,-1)=BAD share(15,45,-1)=474 share(15,-1,-1)=BAD share(15,481,-1)=BAD"
            + " share(15,480,-1)=NONE share(15,0,-1)=NONE"
            + " share(15,90,-2)=BAD share(15,90,4)=BAD share(15,90,5)=BAD share(1,30,1)=0 share(2147483647,30,0)=BAD share(-2147483648,30,0)=BAD"
            + " share(1,2147483647,0)=BAD share(1,-2147483648,0)=BAD share(1,30,2147483647)=BAD share(1,30,-2147483648)=BAD",
            "{c1,10,5,10,0,3;} share(0,0,-1)=0 share(1,10,0)=10 share(2,10,0)=BAD share(3,10,0)=BAD share(1,10,1)=BAD",
            "{" + "c1,10,5,10,0,3;".repeat(6) + "} share(63,60,5)=10 share(64,60,5)=BAD share(65,60,5)=BAD share(63,60,6)=BAD share(63,61,5)=NONE");
        Calls.hold("Of several the first in this order, whatever the order at a call;", "share(16,480,-1)=BAD share(15,480,4)=BAD"
            + " share(0,1,-2)=BAD share(0,481,0)=BAD");
        Calls.hold(SHARE_CALL, "lock(0,1)=1 share(1,10,-1)=113 share(1,10,0)=10 share(5,15,0)=10");
    }

    private static void bestSetOfSeveral() {
        String free = "{c1,10,0,0,0,1;c1,20,0,0,0,1;c1,20,0,0,0,1;c1,10,0,0,0,1;c1,30,0,0,0,1;}";
        Calls.hold(BEST_SET, free + " best(1,0)=1 best(10,0)=1 best(11,0)=2 best(20,0)=2 best(21,0)=16 best(30,0)=16 best(31,0)=6 best(40,0)=6"
            + " best(41,0)=18 best(50,0)=18"
            + " best(51,0)=19 best(60,0)=19 best(61,0)=22 best(70,0)=22 best(71,0)=23 best(80,0)=23 best(81,0)=31 best(90,0)=31 best(91,0)=NONE"
            + " best(90,1)=0");
        Calls.hold(BEST_SET, "{c1,10,9,0,0,1;c1,10,8,0,0,1;c1,10,8,0,0,1;} best(10,0)=2 best(10,1)=8 best(11,0)=6 best(11,1)=16 best(21,0)=7"
            + " best(21,1)=25",
            "{c1,20,16,0,0,1;c1,10,8,0,0,1;c1,10,8,0,0,1;} best(10,0)=2 best(11,0)=1 best(11,1)=16 best(20,0)=1 best(21,0)=3 best(21,1)=24",
            "{c1,20,17,0,0,1;c1,10,8,0,0,1;c1,10,8,0,0,1;} best(11,0)=6 best(11,1)=16 best(21,0)=3 best(21,1)=25",
            "{c1,10,0,0,99,1;c1,10,0,0,99,1;} best(1,0)=1 best(2,0)=3 best(2,1)=0 best(10,1)=38 share(1,10,-1)=77");
    }

    private static void bestSetWithoutLocked() {
        String free = "{c1,10,0,0,0,1;c1,20,0,0,0,1;c1,20,0,0,0,1;}";
        Calls.hold(BEST_SET, free + " best(10,0)=1 lock(0,1)=1 best(10,0)=2 lock(1,1)=2 best(10,0)=4 best(20,0)=4 best(21,0)=NONE lock(2,1)=3"
            + " best(10,0)=NONE best(10,1)=NONE"
            + " best(0,0)=0 lock(0,0)=2 best(10,0)=1 best(11,0)=NONE undo()=3 best(10,0)=NONE undo()=2 best(10,0)=4");
        Calls.hold(ABOVE_BEST, "{c1,10,9,0,0,1;c1,10,1,0,0,1;h50,1,0;} tell(0,5)=0 tick(4)=1"
            + " now(6)=8 lock(1,1)=1 now(6)=0"
            + " lock(0,1)=2 now(6)=NONE tell(0,0)=5 now(6)=0");
    }

    private static void bestBounds() {
        Calls.hold(BEST_CALL, "best(-1,0)=BAD best(481,0)=BAD best(480,0)=NONE best(480,1)=NONE best(30,-1)=BAD best(30,2)=BAD best(480,2)=BAD"
            + " best(2147483647,0)=BAD"
            + " best(-2147483648,0)=BAD best(30,2147483647)=BAD best(30,-2147483648)=BAD best(0,0)=0",
            "{" + "c1,80,99,99,99,1;".repeat(6) + "} best(480,0)=63 best(479,0)=63 best(480,1)=67308 best(481,0)=BAD tell(2,45)=25 tell(3,4)=7"
                + " best(480,1)=86982");
    }
}
