/** Every call that can be refused, in houses that stand otherwise each time: it is, in the order told, and nothing changes by it. */
public final class RefusedTest {
    private static final String ORDER = "BAD: a number is none that is told (MACHINES such as there are; a set may be 0). NO: not as things stand. "
        + "NONE: there is none. FULL. Of several the first in this order, whatever the order at a call; nothing changes then.";
    private static final String C = "c1,10,5,10,0,3;";
    private static final String SIX = "{c1,10,1,1,1,1;c1,20,1,1,1,1;c1,30,1,1,1,1;c1,20,1,1,1,1;c1,10,1,1,1,1;c1,30,1,1,1,1;r0,5,2,1;h90,60,2;} ";
    private static final int[] FAR = {Integer.MIN_VALUE, Integer.MIN_VALUE + 1, -65536, -2, 65536, Integer.MAX_VALUE - 1, Integer.MAX_VALUE};

    private final StringBuilder run;

    private RefusedTest(String scene) {
        run = new StringBuilder(scene);
    }

    public static void main(String[] args) {
        String two = "{" + C + C + "r0,3,2,1;h60,50,3;} ";
        inScene("", 4, "");
        inScene("{" + C + "} ", 1, "");
        inScene(two + "tell(0,20)=0 tick(6)=1 lock(1,1)=1 ", 2, "tell(0,20)=NO lock(1,1)=NO lock(0,0)=NO ");
        inScene(two + "tell(0,20)=0 tick(20)=2 tell(0,1)=20 tick(2)=0 ", 2, "tell(0,1)=NO lock(1,0)=NO lock(0,0)=NO best(21,0)=NONE"
            + " share(3,1,0)=NONE ");
        inScene(SIX + "tell(0,110)=0 tick(19)=6 dip()=6 tick(2)=1 tell(2,45)=25 tell(3,14)=7 ", 6,
            "tell(0,110)=NO tell(2,45)=NO tell(3,14)=NO lock(5,0)=NO best(121,0)=NONE share(63,5,0)=NONE machine(2,12)=NONE ");
        inScene("'" + "c10,10,10,10,10,10;".repeat(6) + "h90,60,02;".repeat(8) + "r5,3,3' tell(0,30)=0 tick(5)=1 ", 4, "write(32)=FULL"
            + " write(126)=FULL lay()=NO tell(0,30)=NO ");
        inScene("tell(0,160)=0 tick(60)=4 165*tick(60)=0 tick(39)=0 ", 4, "tick(1)=NO tick(60)=NO lay()=NO tell(0,160)=NO ");
        inScene("tell(0,160)=0 tick(60)=4 165*tick(60)=0 tick(37)=0 ", 4, "tick(3)=NO tick(60)=NO lay()=NO ");
        Due.end();
    }

    /** A scene with so many MACHINES, what is refused in it as things stand, and all that is refused ever. */
    private static void inScene(String scene, int machines, String asThingsStand) {
        Calls.hold(ORDER, scene + asThingsStand);
        Calls.hold(ORDER, new RefusedTest(scene).told(machines).run.toString());
        Calls.hold(ORDER, new RefusedTest(scene).asked(machines).run.toString());
    }

    private void bad(String call, int... numbers) {
        for (int number : numbers) {
            run.append(call.replace("#", Integer.toString(number))).append("=BAD ");
        }
    }

    private RefusedTest told(int machines) {
        bad("write(#)", -1, 0, 31, 127, 128);
        bad("tell(#,5)", -1, 4);
        bad("tell(0,#)", -1, 481);
        bad("tell(1,#)", -1, 241);
        bad("tell(2,#)", -1, 46);
        bad("tell(3,#)", 0, 3, 15);
        bad("lock(#,0)", -1, machines);
        bad("lock(#,1)", -1, machines);
        bad("lock(0,#)", -1, 2);
        bad("tick(#)", -1, 0, 61);
        for (String call : new String[] {"write(#)", "tell(#,5)", "tell(0,#)", "tell(3,#)", "lock(#,1)", "lock(0,#)", "tick(#)"}) {
            bad(call, FAR);
        }
        return this;
    }

    private RefusedTest asked(int machines) {
        bad("machine(#,0)", -1, machines);
        bad("machine(#,12)", -1, machines);
        bad("machine(0,#)", -1, 13);
        bad("power(#,0,0)", -1, machines);
        bad("power(0,#,0)", -1, 100);
        bad("power(0,0,#)", -1, 46);
        bad("share(#,0,-1)", -1, 1 << machines);
        bad("share(0,#,-1)", -1, 481);
        bad("share(0,0,#)", -2, machines);
        bad("share(0,480,#)", -2, machines);
        bad("best(#,0)", -1, 481);
        bad("best(0,#)", -1, 2);
        bad("best(480,#)", -1, 2);
        bad("now(#)", -1, 7);
        bad("ahead(#,0)", -1, 0, 61);
        bad("ahead(1,#)", -1, 4);
        bad("count(#)", -1, 16);
        for (String call : new String[] {"machine(#,0)", "machine(0,#)", "power(#,0,0)", "power(0,#,0)", "power(0,0,#)", "share(#,0,-1)",
            "share(0,#,-1)", "share(0,0,#)",
            "best(#,0)", "best(0,#)", "now(#)", "ahead(#,0)", "ahead(1,#)", "count(#)"}) {
            bad(call, FAR);
        }
        return this;
    }
}
